/-! the model's public methods: the writers, and what a patch says -/
theorem z_m1 (x : Int32) : x + Int32.ofInt (-1) = x - nI 1 := by
  rw [Int32.sub_eq_add_neg, show -nI 1 = Int32.ofInt (-1) by decide]
theorem MF.feed {cs : Nat → ClassId} {w : MU} {σ : St} {Z : va_W} {x : Int64} {n : Nat} (h : MF cs w σ Z) (hn : σ.1.length + n ≤ 400) : MF cs (muF w (fdR (mf w) σ.1.length x n n)) (stB0 σ (σ.1 ++ fdL x n)) Z := by
  refine h.buf (rowOk_fd h.2.2.2.2.2.1 hn) (fun i hi => ?_)
  rw [List.length_append, fdL_len] at hi
  show fdR (mf w) σ.1.length x n n i = nI (bv (σ.1 ++ fdL x n) i)
  by_cases h1 : i < σ.1.length
  · rw [fdR_lo n h1, bv_lo h1]; exact h.1 i h1
  · obtain ⟨j, rfl⟩ : ∃ j, i = σ.1.length + j := ⟨i - σ.1.length, by omega⟩
    rw [fdR_hi n (by omega), bv_hi, bv_fd (by omega)]

set_option maxHeartbeats 4000000 in
set_option maxRecDepth 100000 in
theorem c_X3_feed_a (l : Launch) (D : va_G) (cs : Nat → ClassId) (S0 : Nat) (Z : va_W) (b : Nat → Nat) (w : MU) (sg : St) (hF : MF cs w sg Z) (th : Int32) (x9 : Int64) (z : Int32) (hz : inB z (nI 1) (nI 8) = false)  : Met l yX3_feed wsX3_feed ({ frames := 1, cells := 0, slots := 0, locals := 22 }) (zM [.ref (b 0), .long x9, .int z] (fun H => Wd D S0 (MW cs b w (th) sg Z) H) D cs) (va_Qi (fun r (v : MU × va_W) => ((1 : Nat) = 0 → r = nI 0) ∧ MF cs v.1 sg (v.2 ++ Z)) (fun v t => Wd D S0 (MW cs b v.1 (nI 1) sg (v.2 ++ Z)) t.heap) (SA S0)) 0 0 (SA S0) := by
  refine Met.ofW (cc := cX3_feed) (maxL := 5) (ret := (some .int)) (by decide) rfl ?_
  intro p e s m args below meth c s₁ B hml hv
  obtain ⟨rfl, hW, hK, hA9⟩ := hv
  have hx := B.exec
  have hb := B.bytes
  have hr := B.returns
  have hts := atoms_spec (ws := wsX3_feed) B.pre
  have hown : s.vm.findClass RX3 = some m.cls := findClass_of_methodNamed B.named
  have hlocks := B.notSynchronized
  have hRc : (headSpec wsX3_feed ({ frames := 1, cells := 0, slots := 0, locals := 22 })).room.cells = 0 := rfl
  have hRs : (headSpec wsX3_feed ({ frames := 1, cells := 0, slots := 0, locals := 22 })).room.slots = 0 := rfl
  have fl33 := hts (.fieldLink RX3 33 "DeltaUpdaterModel" "thrown" "I") (by decide +kernel)
  have in4 : ∀ w ∈ u_ws RX3 TX3 12, w ∈ wsX3_feed := by decide +kernel
  have hW : Wd D S0 (MW cs b w (th) sg Z) s.heap := hW
  have hS0 : S0 ≤ s.heap.size := hW.2.2
  have hS : va_S (SA S0) s.heap s.heap [] := va_S.rf
  have hl := lv_entry ([.ref (b 0), .long x9, .int z]) (n := 5) (Nat.le_of_ble_eq_true rfl)
  rw [lg_entry_eq]
  generalize (lg_sl ([.ref (b 0), .long x9, .int z]) ++ List.replicate (5 - (lg_sl ([.ref (b 0), .long x9, .int z])).length) Slot.unset).toArray = ls at hl ⊢
  have hl : lv_has ls 5 [(0, .ref (b 0)), (1, .long x9), (3, .int z)] := hl
  have hok := hF.2.2.2.2.2
  have hbl := hok.1.1
  have hnv := hok.2.1.1
  have hnp := hok.2.2.1.1
  have hnh := hok.2.2.2.2.1
  refine lv_aload_n hx hb dX3_feed_0 rfl (lv_at hl 0 rfl) ?_
  refine lv_iconst (v := nI 0) hx hb dX3_feed_1 (by decide) ?_
  refine z_put (ty := .int) (ci := 4) (v := .int (nI 0)) (C := RX3) (T := TX3) (N := 12) hx hb hts in4 tyX3 tyX3_ok nmX3 hown hK hW hS 0 rfl rfl 0 (by decide) fl33 (fun _ h9 => h9) rfl (by decide +kernel) rfl rfl (Nat.le_of_ble_eq_true rfl) dX3_feed_2 (fun H locs hW hS => ?_)
  have hW : Wd D S0 (((b 0), .inr (4, [.int (nI 0), .int (nI sg.1.length), .ref (b 1), .int (nI sg.2.1.length), .ref (b 2), .int (nI sg.2.2.1.length), .ref (b 3), .ref (b 4), .ref (b 5), .ref (mI w), .int (nI sg.2.2.2.2.length), .ref (b 6)])) :: ((b 1), fa cs 400 (mf w)) :: ((b 2), qa cs 2 12 (mg w 0)) :: ((b 3), qa cs 2 12 (mg w 1)) :: ((b 4), qa cs 2 12 (mg w 2)) :: ((b 5), qa cs 2 12 (mg w 3)) :: ((b 6), qa cs 2 20 (mg w 4)) :: Z) H := hW
  refine lv_iload_n hx hb dX3_feed_5 rfl (lv_at hl 2 rfl) ?_
  refine lv_iconst (v := nI 1) hx hb dX3_feed_6 (by decide) ?_
  refine lv_bipush (v := nI 8) hx hb dX3_feed_7 (by decide) ?_
  refine z_csS (As := [.int z, .int (nI 1), .int (nI 8)]) (rest := []) ⟨hx, hb, hml, hown, hts⟩ (c_X3_isIn l D cs z (nI 1) (nI 8)) (va_cwS 3 hts gX3_feed_X3_isIn rfl rfl rfl (by decide +kernel) ⟨Nat.le_of_ble_eq_true rfl, Nat.le_of_ble_eq_true rfl⟩) trivial hK rfl hl.1 rfl (Nat.le_of_ble_eq_true rfl) dX3_feed_9 ⟨(by rw [hRc]; omega), (by rw [hRs]; omega)⟩ (fun r hq9 => ?_)
  have hq9 : r = bI (inB z (nI 1) (nI 8)) := hq9
  subst hq9
  refine z_ifb_ne (tgt := 21) hx hb dX3_feed_12 (by decide) (fun h9 => absurd (h9.symm.trans hz) (by decide)) (fun _ => ?_)
  refine lv_aload_n hx hb dX3_feed_15 rfl (lv_at hl 0 rfl) ?_
  refine lv_iconst (v := nI 1) hx hb dX3_feed_16 (by decide) ?_
  refine z_cmI (va_runV (As := [.int (nI 1)]) (rest := []) ⟨hx, hb, hml, hown, hts⟩ (c_X3_fail l D cs S0 Z b w (nI 0) (nI 1) sg) (cwV 1 hts gX3_feed_X3_fail rfl rfl rfl (by decide +kernel) ⟨Nat.le_of_ble_eq_true rfl, Nat.le_of_ble_eq_true rfl⟩) ⟨zP_blind, z_recv hK (hW.1 0 _ rfl) rfl, (zP_pre hW hK)⟩ rfl rfl hl.1 rfl (lv_room (Nat.le_of_ble_eq_true rfl)) dX3_feed_17 ⟨(by rw [hRc]; omega), (by rw [hRs]; omega)⟩) hS (fun r u8 H locs hu hW hS => ?_)
  rw [hu]
  have hW : Wd D S0 (((b 0), .inr (4, [.int (nI 1), .int (nI sg.1.length), .ref (b 1), .int (nI sg.2.1.length), .ref (b 2), .int (nI sg.2.2.1.length), .ref (b 3), .ref (b 4), .ref (b 5), .ref (mI w), .int (nI sg.2.2.2.2.length), .ref (b 6)])) :: ((b 1), fa cs 400 (mf w)) :: ((b 2), qa cs 2 12 (mg w 0)) :: ((b 3), qa cs 2 12 (mg w 1)) :: ((b 4), qa cs 2 12 (mg w 2)) :: ((b 5), qa cs 2 12 (mg w 3)) :: ((b 6), qa cs 2 20 (mg w 4)) :: Z) H := hW
  refine W.widen (k := 0) (n := 0) (by omega) (by omega) ?_
  exact W.iret (v := nI 0) hx hb hr (fun t ht hW9 => ⟨⟨_, (w, []), rfl, ⟨fun h9 => absurd h9 (by decide), hF⟩, (by show Wd D S0 _ _; rw [ht]; exact hW)⟩, hS.F ht⟩) (fun q9 h9 => hS.2.2 q9 h9) dX3_feed_20

set_option maxHeartbeats 4000000 in
set_option maxRecDepth 100000 in
theorem c_X3_feed_b (l : Launch) (D : va_G) (cs : Nat → ClassId) (S0 : Nat) (Z : va_W) (b : Nat → Nat) (w : MU) (sg : St) (hF : MF cs w sg Z) (th : Int32) (x9 : Int64) (n9 : Nat) (h1 : 1 ≤ n9) (h2 : n9 ≤ 8) (h3 : 400 < sg.1.length + n9)  : Met l yX3_feed wsX3_feed ({ frames := 1, cells := 0, slots := 0, locals := 22 }) (zM [.ref (b 0), .long x9, .int (nI n9)] (fun H => Wd D S0 (MW cs b w (th) sg Z) H) D cs) (va_Qi (fun r (v : MU × va_W) => ((2 : Nat) = 0 → r = nI 0) ∧ MF cs v.1 sg (v.2 ++ Z)) (fun v t => Wd D S0 (MW cs b v.1 (nI 2) sg (v.2 ++ Z)) t.heap) (SA S0)) 0 0 (SA S0) := by
  refine Met.ofW (cc := cX3_feed) (maxL := 5) (ret := (some .int)) (by decide) rfl ?_
  intro p e s m args below meth c s₁ B hml hv
  obtain ⟨rfl, hW, hK, hA9⟩ := hv
  have hx := B.exec
  have hb := B.bytes
  have hr := B.returns
  have hts := atoms_spec (ws := wsX3_feed) B.pre
  have hown : s.vm.findClass RX3 = some m.cls := findClass_of_methodNamed B.named
  have hlocks := B.notSynchronized
  have hRc : (headSpec wsX3_feed ({ frames := 1, cells := 0, slots := 0, locals := 22 })).room.cells = 0 := rfl
  have hRs : (headSpec wsX3_feed ({ frames := 1, cells := 0, slots := 0, locals := 22 })).room.slots = 0 := rfl
  have fl33 := hts (.fieldLink RX3 33 "DeltaUpdaterModel" "thrown" "I") (by decide +kernel)
  have fl51 := hts (.fieldLink RX3 51 "DeltaUpdaterModel" "buffered" "I") (by decide +kernel)
  have in4 : ∀ w ∈ u_ws RX3 TX3 12, w ∈ wsX3_feed := by decide +kernel
  have hW : Wd D S0 (MW cs b w (th) sg Z) s.heap := hW
  have hS0 : S0 ≤ s.heap.size := hW.2.2
  have hS : va_S (SA S0) s.heap s.heap [] := va_S.rf
  have hl := lv_entry ([.ref (b 0), .long x9, .int (nI n9)]) (n := 5) (Nat.le_of_ble_eq_true rfl)
  rw [lg_entry_eq]
  generalize (lg_sl ([.ref (b 0), .long x9, .int (nI n9)]) ++ List.replicate (5 - (lg_sl ([.ref (b 0), .long x9, .int (nI n9)])).length) Slot.unset).toArray = ls at hl ⊢
  have hl : lv_has ls 5 [(0, .ref (b 0)), (1, .long x9), (3, .int (nI n9))] := hl
  have hok := hF.2.2.2.2.2
  have hbl := hok.1.1
  have hnv := hok.2.1.1
  have hnp := hok.2.2.1.1
  have hnh := hok.2.2.2.2.1
  have hnb : inB (nI n9) (nI 1) (nI 8) = true := inB_in h1 h2 (by decide)
  refine lv_aload_n hx hb dX3_feed_0 rfl (lv_at hl 0 rfl) ?_
  refine lv_iconst (v := nI 0) hx hb dX3_feed_1 (by decide) ?_
  refine z_put (ty := .int) (ci := 4) (v := .int (nI 0)) (C := RX3) (T := TX3) (N := 12) hx hb hts in4 tyX3 tyX3_ok nmX3 hown hK hW hS 0 rfl rfl 0 (by decide) fl33 (fun _ h9 => h9) rfl (by decide +kernel) rfl rfl (Nat.le_of_ble_eq_true rfl) dX3_feed_2 (fun H locs hW hS => ?_)
  have hW : Wd D S0 (((b 0), .inr (4, [.int (nI 0), .int (nI sg.1.length), .ref (b 1), .int (nI sg.2.1.length), .ref (b 2), .int (nI sg.2.2.1.length), .ref (b 3), .ref (b 4), .ref (b 5), .ref (mI w), .int (nI sg.2.2.2.2.length), .ref (b 6)])) :: ((b 1), fa cs 400 (mf w)) :: ((b 2), qa cs 2 12 (mg w 0)) :: ((b 3), qa cs 2 12 (mg w 1)) :: ((b 4), qa cs 2 12 (mg w 2)) :: ((b 5), qa cs 2 12 (mg w 3)) :: ((b 6), qa cs 2 20 (mg w 4)) :: Z) H := hW
  refine lv_iload_n hx hb dX3_feed_5 rfl (lv_at hl 2 rfl) ?_
  refine lv_iconst (v := nI 1) hx hb dX3_feed_6 (by decide) ?_
  refine lv_bipush (v := nI 8) hx hb dX3_feed_7 (by decide) ?_
  refine z_csS (As := [.int (nI n9), .int (nI 1), .int (nI 8)]) (rest := []) ⟨hx, hb, hml, hown, hts⟩ (c_X3_isIn l D cs (nI n9) (nI 1) (nI 8)) (va_cwS 3 hts gX3_feed_X3_isIn rfl rfl rfl (by decide +kernel) ⟨Nat.le_of_ble_eq_true rfl, Nat.le_of_ble_eq_true rfl⟩) trivial hK rfl hl.1 rfl (Nat.le_of_ble_eq_true rfl) dX3_feed_9 ⟨(by rw [hRc]; omega), (by rw [hRs]; omega)⟩ (fun r hq9 => ?_)
  have hq9 : r = bI (inB (nI n9) (nI 1) (nI 8)) := hq9
  subst hq9
  refine z_ifb_ne (tgt := 21) hx hb dX3_feed_12 (by decide) (fun _ => ?_) (fun h9 => absurd (h9.symm.trans hnb) (by decide))
  refine lv_aload_n hx hb dX3_feed_21 rfl (lv_at hl 0 rfl) ?_
  refine z_get (ci := 4) (v := .int (nI sg.1.length)) (C := RX3) (T := TX3) (N := 12) hx hb hts in4 hown hK (hW.1 0 _ rfl) rfl 1 (by decide) fl51 (fun _ h9 => h9) rfl dX3_feed_22 ?_
  refine lv_iload_n hx hb dX3_feed_25 rfl (lv_at hl 2 rfl) ?_
  refine lv_iadd hx hb dX3_feed_26 ?_
  refine zti (nI_add _ _) (y := nI (sg.1.length + n9)) ?_
  refine lv_sipush (v := nI 400) hx hb dX3_feed_27 (by decide) ?_
  refine z_icmp_le (tgt := 39) hx hb (by omega) (by omega) dX3_feed_30 (by decide) (fun hc30 => ?_) (fun hc30 => ?_)
  · skip
    have hc30 : sg.1.length + n9 ≤ 400 := hc30
    omega
  · skip
    have hc30 : 400 < sg.1.length + n9 := hc30
    refine lv_aload_n hx hb dX3_feed_33 rfl (lv_at hl 0 rfl) ?_
    refine lv_iconst (v := nI 2) hx hb dX3_feed_34 (by decide) ?_
    refine z_cmI (va_runV (As := [.int (nI 2)]) (rest := []) ⟨hx, hb, hml, hown, hts⟩ (c_X3_fail l D cs S0 Z b w (nI 0) (nI 2) sg) (cwV 1 hts gX3_feed_X3_fail rfl rfl rfl (by decide +kernel) ⟨Nat.le_of_ble_eq_true rfl, Nat.le_of_ble_eq_true rfl⟩) ⟨zP_blind, z_recv hK (hW.1 0 _ rfl) rfl, (zP_pre hW hK)⟩ rfl rfl hl.1 rfl (lv_room (Nat.le_of_ble_eq_true rfl)) dX3_feed_35 ⟨(by rw [hRc]; omega), (by rw [hRs]; omega)⟩) hS (fun r u8 H locs hu hW hS => ?_)
    rw [hu]
    have hW : Wd D S0 (((b 0), .inr (4, [.int (nI 2), .int (nI sg.1.length), .ref (b 1), .int (nI sg.2.1.length), .ref (b 2), .int (nI sg.2.2.1.length), .ref (b 3), .ref (b 4), .ref (b 5), .ref (mI w), .int (nI sg.2.2.2.2.length), .ref (b 6)])) :: ((b 1), fa cs 400 (mf w)) :: ((b 2), qa cs 2 12 (mg w 0)) :: ((b 3), qa cs 2 12 (mg w 1)) :: ((b 4), qa cs 2 12 (mg w 2)) :: ((b 5), qa cs 2 12 (mg w 3)) :: ((b 6), qa cs 2 20 (mg w 4)) :: Z) H := hW
    refine W.widen (k := 0) (n := 0) (by omega) (by omega) ?_
    exact W.iret (v := nI 0) hx hb hr (fun t ht hW9 => ⟨⟨_, (w, []), rfl, ⟨fun h9 => absurd h9 (by decide), hF⟩, (by show Wd D S0 _ _; rw [ht]; exact hW)⟩, hS.F ht⟩) (fun q9 h9 => hS.2.2 q9 h9) dX3_feed_38

set_option maxHeartbeats 4000000 in
set_option maxRecDepth 100000 in
theorem c_X3_feed (l : Launch) (D : va_G) (cs : Nat → ClassId) (S0 : Nat) (Z : va_W) (b : Nat → Nat) (w : MU) (sg : St) (hF : MF cs w sg Z) (th : Int32) (x9 : Int64) (n9 : Nat) (h1 : 1 ≤ n9) (h2 : n9 ≤ 8) (h3 : sg.1.length + n9 ≤ 400)  : Met l yX3_feed wsX3_feed ({ frames := 1, cells := 0, slots := 0, locals := 22 }) (zM [.ref (b 0), .long x9, .int (nI n9)] (fun H => Wd D S0 (MW cs b w (th) sg Z) H) D cs) (va_Qi (fun r (v : MU × va_W) => ((0 : Nat) = 0 → r = nI (sg.1.length + n9)) ∧ MF cs v.1 (stB0 sg (sg.1 ++ fdL x9 n9)) (v.2 ++ Z)) (fun v t => Wd D S0 (MW cs b v.1 (nI 0) (stB0 sg (sg.1 ++ fdL x9 n9)) (v.2 ++ Z)) t.heap) (SA S0)) 0 0 (SA S0) := by
  refine Met.ofW (cc := cX3_feed) (maxL := 5) (ret := (some .int)) (by decide) rfl ?_
  intro p e s m args below meth c s₁ B hml hv
  obtain ⟨rfl, hW, hK, hA9⟩ := hv
  have hx := B.exec
  have hb := B.bytes
  have hr := B.returns
  have hts := atoms_spec (ws := wsX3_feed) B.pre
  have hown : s.vm.findClass RX3 = some m.cls := findClass_of_methodNamed B.named
  have hlocks := B.notSynchronized
  have hRc : (headSpec wsX3_feed ({ frames := 1, cells := 0, slots := 0, locals := 22 })).room.cells = 0 := rfl
  have hRs : (headSpec wsX3_feed ({ frames := 1, cells := 0, slots := 0, locals := 22 })).room.slots = 0 := rfl
  have fl33 := hts (.fieldLink RX3 33 "DeltaUpdaterModel" "thrown" "I") (by decide +kernel)
  have fl51 := hts (.fieldLink RX3 51 "DeltaUpdaterModel" "buffered" "I") (by decide +kernel)
  have fl9 := hts (.fieldLink RX3 9 "DeltaUpdaterModel" "buffer" "[I") (by decide +kernel)
  have in4 : ∀ w ∈ u_ws RX3 TX3 12, w ∈ wsX3_feed := by decide +kernel
  have hW : Wd D S0 (MW cs b w (th) sg Z) s.heap := hW
  have hS0 : S0 ≤ s.heap.size := hW.2.2
  have hS : va_S (SA S0) s.heap s.heap [] := va_S.rf
  have hl := lv_entry ([.ref (b 0), .long x9, .int (nI n9)]) (n := 5) (Nat.le_of_ble_eq_true rfl)
  rw [lg_entry_eq]
  generalize (lg_sl ([.ref (b 0), .long x9, .int (nI n9)]) ++ List.replicate (5 - (lg_sl ([.ref (b 0), .long x9, .int (nI n9)])).length) Slot.unset).toArray = ls at hl ⊢
  have hl : lv_has ls 5 [(0, .ref (b 0)), (1, .long x9), (3, .int (nI n9))] := hl
  have hok := hF.2.2.2.2.2
  have hbl := hok.1.1
  have hnv := hok.2.1.1
  have hnp := hok.2.2.1.1
  have hnh := hok.2.2.2.2.1
  have hnb : inB (nI n9) (nI 1) (nI 8) = true := inB_in h1 h2 (by decide)
  refine lv_aload_n hx hb dX3_feed_0 rfl (lv_at hl 0 rfl) ?_
  refine lv_iconst (v := nI 0) hx hb dX3_feed_1 (by decide) ?_
  refine z_put (ty := .int) (ci := 4) (v := .int (nI 0)) (C := RX3) (T := TX3) (N := 12) hx hb hts in4 tyX3 tyX3_ok nmX3 hown hK hW hS 0 rfl rfl 0 (by decide) fl33 (fun _ h9 => h9) rfl (by decide +kernel) rfl rfl (Nat.le_of_ble_eq_true rfl) dX3_feed_2 (fun H locs hW hS => ?_)
  have hW : Wd D S0 (((b 0), .inr (4, [.int (nI 0), .int (nI sg.1.length), .ref (b 1), .int (nI sg.2.1.length), .ref (b 2), .int (nI sg.2.2.1.length), .ref (b 3), .ref (b 4), .ref (b 5), .ref (mI w), .int (nI sg.2.2.2.2.length), .ref (b 6)])) :: ((b 1), fa cs 400 (mf w)) :: ((b 2), qa cs 2 12 (mg w 0)) :: ((b 3), qa cs 2 12 (mg w 1)) :: ((b 4), qa cs 2 12 (mg w 2)) :: ((b 5), qa cs 2 12 (mg w 3)) :: ((b 6), qa cs 2 20 (mg w 4)) :: Z) H := hW
  refine lv_iload_n hx hb dX3_feed_5 rfl (lv_at hl 2 rfl) ?_
  refine lv_iconst (v := nI 1) hx hb dX3_feed_6 (by decide) ?_
  refine lv_bipush (v := nI 8) hx hb dX3_feed_7 (by decide) ?_
  refine z_csS (As := [.int (nI n9), .int (nI 1), .int (nI 8)]) (rest := []) ⟨hx, hb, hml, hown, hts⟩ (c_X3_isIn l D cs (nI n9) (nI 1) (nI 8)) (va_cwS 3 hts gX3_feed_X3_isIn rfl rfl rfl (by decide +kernel) ⟨Nat.le_of_ble_eq_true rfl, Nat.le_of_ble_eq_true rfl⟩) trivial hK rfl hl.1 rfl (Nat.le_of_ble_eq_true rfl) dX3_feed_9 ⟨(by rw [hRc]; omega), (by rw [hRs]; omega)⟩ (fun r hq9 => ?_)
  have hq9 : r = bI (inB (nI n9) (nI 1) (nI 8)) := hq9
  subst hq9
  refine z_ifb_ne (tgt := 21) hx hb dX3_feed_12 (by decide) (fun _ => ?_) (fun h9 => absurd (h9.symm.trans hnb) (by decide))
  refine lv_aload_n hx hb dX3_feed_21 rfl (lv_at hl 0 rfl) ?_
  refine z_get (ci := 4) (v := .int (nI sg.1.length)) (C := RX3) (T := TX3) (N := 12) hx hb hts in4 hown hK (hW.1 0 _ rfl) rfl 1 (by decide) fl51 (fun _ h9 => h9) rfl dX3_feed_22 ?_
  refine lv_iload_n hx hb dX3_feed_25 rfl (lv_at hl 2 rfl) ?_
  refine lv_iadd hx hb dX3_feed_26 ?_
  refine zti (nI_add _ _) (y := nI (sg.1.length + n9)) ?_
  refine lv_sipush (v := nI 400) hx hb dX3_feed_27 (by decide) ?_
  refine z_icmp_le (tgt := 39) hx hb (by omega) (by omega) dX3_feed_30 (by decide) (fun hc30 => ?_) (fun hc30 => ?_)
  · skip
    have hc30 : sg.1.length + n9 ≤ 400 := hc30
    refine lv_iload_n hx hb dX3_feed_39 rfl (lv_at hl 2 rfl) ?_
    refine lv_iconst (v := nI 1) hx hb dX3_feed_40 (by decide) ?_
    refine lv_isub hx hb dX3_feed_41 ?_
    refine lv_istore (lv' := [(4, .int ((nI n9) - (nI 1))), (0, .ref (b 0)), (1, .long x9), (3, .int (nI n9))]) hx hb dX3_feed_42 hl (by decide) rfl (fun ls hl => ?_)
    refine z_loopM (σ := Nat) (fun q9 => n9 - q9) (fun q9 ls H locs => lv_has ls 5 [(4, .int (nI (n9 - q9) - nI 1)), (0, .ref (b 0)), (1, .long x9), (3, .int (nI n9))] ∧ Wd D S0 (((b 0), .inr (4, [.int (nI 0), .int (nI (sg.1.length + q9)), .ref (b 1), .int (nI sg.2.1.length), .ref (b 2), .int (nI sg.2.2.1.length), .ref (b 3), .ref (b 4), .ref (b 5), .ref (mI w), .int (nI sg.2.2.2.2.length), .ref (b 6)])) :: ((b 1), fa cs 400 (fdR (mf w) sg.1.length x9 n9 q9)) :: ((b 2), qa cs 2 12 (mg w 0)) :: ((b 3), qa cs 2 12 (mg w 1)) :: ((b 4), qa cs 2 12 (mg w 2)) :: ((b 5), qa cs 2 12 (mg w 3)) :: ((b 6), qa cs 2 20 (mg w 4)) :: Z) H ∧ va_S (SA S0) s.heap H locs ∧ (q9 ≤ n9)) 0 ⟨lv_sub hl [0, 1, 2, 3] rfl, hW, hS, (show 0 ≤ n9 from Nat.zero_le _)⟩ (fun dd44 ih44 y9 ls H locs hd9 hI9 => ?_)
    obtain ⟨jq, rfl⟩ : ∃ z, z = y9 := ⟨_, rfl⟩
    have hd44 : n9 - jq = dd44 := hd9
    have hI9 : lv_has ls 5 [(4, .int (nI (n9 - jq) - nI 1)), (0, .ref (b 0)), (1, .long x9), (3, .int (nI n9))] ∧ Wd D S0 (((b 0), .inr (4, [.int (nI 0), .int (nI (sg.1.length + jq)), .ref (b 1), .int (nI sg.2.1.length), .ref (b 2), .int (nI sg.2.2.1.length), .ref (b 3), .ref (b 4), .ref (b 5), .ref (mI w), .int (nI sg.2.2.2.2.length), .ref (b 6)])) :: ((b 1), fa cs 400 (fdR (mf w) sg.1.length x9 n9 jq)) :: ((b 2), qa cs 2 12 (mg w 0)) :: ((b 3), qa cs 2 12 (mg w 1)) :: ((b 4), qa cs 2 12 (mg w 2)) :: ((b 5), qa cs 2 12 (mg w 3)) :: ((b 6), qa cs 2 20 (mg w 4)) :: Z) H ∧ va_S (SA S0) s.heap H locs ∧ (jq ≤ n9) := hI9
    obtain ⟨hl, hW, hS, hj9⟩ := hI9
    refine lv_iload hx hb dX3_feed_44 (lv_at hl 0 rfl) ?_
    refine lv_if_lt (tgt := 86) hx hb dX3_feed_46 (by decide) (fun hc46 => ?_) (fun hc46 => ?_)
    · skip
      have hc46 : (nI (n9 - jq) - nI 1) < 0 := hc46
      have e9 : jq = n9 := by
        rcases Nat.lt_or_ge jq n9 with h9 | h9
        · rw [pk_sub (show 1 ≤ n9 - jq by omega)] at hc46; exact absurd hc46 (nI_pos (by omega))
        · omega
      rw [e9] at hW
      have hl9 : (sg.1 ++ fdL x9 n9).length = sg.1.length + n9 := by rw [List.length_append, fdL_len]
      rw [← hl9] at hW
      have hW : Wd D S0 (((b 0), .inr (4, [.int (nI 0), .int (nI ((sg.1 ++ fdL x9 n9).length)), .ref (b 1), .int (nI sg.2.1.length), .ref (b 2), .int (nI sg.2.2.1.length), .ref (b 3), .ref (b 4), .ref (b 5), .ref (mI w), .int (nI sg.2.2.2.2.length), .ref (b 6)])) :: ((b 1), fa cs 400 (fdR (mf w) sg.1.length x9 n9 n9)) :: ((b 2), qa cs 2 12 (mg w 0)) :: ((b 3), qa cs 2 12 (mg w 1)) :: ((b 4), qa cs 2 12 (mg w 2)) :: ((b 5), qa cs 2 12 (mg w 3)) :: ((b 6), qa cs 2 20 (mg w 4)) :: Z) H := hW
      refine lv_aload_n hx hb dX3_feed_86 rfl (lv_at hl 1 rfl) ?_
      refine z_get (ci := 4) (v := .int (nI ((sg.1 ++ fdL x9 n9).length))) (C := RX3) (T := TX3) (N := 12) hx hb hts in4 hown hK (hW.1 0 _ rfl) rfl 1 (by decide) fl51 (fun _ h9 => h9) rfl dX3_feed_87 ?_
      refine W.widen (k := 0) (n := 0) (by omega) (by omega) ?_
      exact W.iret (v := nI ((sg.1 ++ fdL x9 n9).length)) hx hb hr (fun t ht hW9 => ⟨⟨_, (muF w (fdR (mf w) sg.1.length x9 n9 n9), []), rfl, ⟨fun _ => congrArg nI hl9, hF.feed h3⟩, (by show Wd D S0 _ _; rw [ht]; exact hW)⟩, hS.F ht⟩) (fun q9 h9 => hS.2.2 q9 h9) dX3_feed_90
    · skip
      have hc46 : ¬ (nI (n9 - jq) - nI 1) < 0 := hc46
      have hlt : jq < n9 := by
        rcases Nat.lt_or_ge jq n9 with h9 | h9
        · exact h9
        · exact absurd (by rw [show n9 - jq = 0 by omega]; decide) hc46
      rw [pk_sub (show 1 ≤ n9 - jq by omega), show n9 - jq - 1 = n9 - 1 - jq by omega] at hl
      have hl : lv_has ls 5 [(4, .int (nI (n9 - 1 - jq))), (0, .ref (b 0)), (1, .long x9), (3, .int (nI n9))] := hl
      refine lv_aload_n hx hb dX3_feed_49 rfl (lv_at hl 1 rfl) ?_
      refine z_get (ci := 4) (v := .ref (b 1)) (C := RX3) (T := TX3) (N := 12) hx hb hts in4 hown hK (hW.1 0 _ rfl) rfl 2 (by decide) fl9 (fun _ h9 => h9) rfl dX3_feed_50 ?_
      refine lv_aload_n hx hb dX3_feed_53 rfl (lv_at hl 1 rfl) ?_
      refine z_get (ci := 4) (v := .int (nI (sg.1.length + jq))) (C := RX3) (T := TX3) (N := 12) hx hb hts in4 hown hK (hW.1 0 _ rfl) rfl 1 (by decide) fl51 (fun _ h9 => h9) rfl dX3_feed_54 ?_
      refine lv_lload_n hx hb dX3_feed_57 rfl (lv_at hl 2 rfl) ?_
      refine lv_bipush (v := nI 8) hx hb dX3_feed_58 (by decide) ?_
      refine lv_iload hx hb dX3_feed_60 (lv_at hl 0 rfl) ?_
      refine lv_imul hx hb dX3_feed_62 ?_
      refine zti (pk_mul _ _) (y := nI (8 * (n9 - 1 - jq))) ?_
      refine lv_lushr (v := (x9.toUInt64 >>> ((nI (8 * (n9 - 1 - jq))).toInt64.toUInt64 &&& Int64.toUInt64 63)).toInt64) hx hb dX3_feed_63 rfl ?_
      refine lv_ldc2 (v := 255) hx hb hown (hts (.constantLong RX3 54 (255)) (by decide +kernel)) dX3_feed_64 ?_
      refine lv_land hx hb dX3_feed_67 ?_
      refine lv_l2i (v := (((x9.toUInt64 >>> ((nI (8 * (n9 - 1 - jq))).toInt64.toUInt64 &&& Int64.toUInt64 63)).toInt64) &&& 255).toInt32) hx hb dX3_feed_68 rfl ?_
      refine zti (z_c255 _) (y := nI (fdB x9 (n9 - 1 - jq))) ?_
      refine z_iast (k := (sg.1.length + jq)) (x := nI (fdB x9 (n9 - 1 - jq))) (n := 400) (f := (fdR (mf w) sg.1.length x9 n9 jq)) hx hb hK hW hS 1 rfl (by omega) (by omega) dX3_feed_69 (fun H locs hW hS => ?_)
      have hW : Wd D S0 (((b 0), .inr (4, [.int (nI 0), .int (nI (sg.1.length + jq)), .ref (b 1), .int (nI sg.2.1.length), .ref (b 2), .int (nI sg.2.2.1.length), .ref (b 3), .ref (b 4), .ref (b 5), .ref (mI w), .int (nI sg.2.2.2.2.length), .ref (b 6)])) :: ((b 1), fa cs 400 (upd (fdR (mf w) sg.1.length x9 n9 jq) (sg.1.length + jq) (nI (fdB x9 (n9 - 1 - jq))))) :: ((b 2), qa cs 2 12 (mg w 0)) :: ((b 3), qa cs 2 12 (mg w 1)) :: ((b 4), qa cs 2 12 (mg w 2)) :: ((b 5), qa cs 2 12 (mg w 3)) :: ((b 6), qa cs 2 20 (mg w 4)) :: Z) H := hW
      refine lv_aload_n hx hb dX3_feed_70 rfl (lv_at hl 1 rfl) ?_
      refine lv_dup hx hb dX3_feed_71 rfl ?_
      refine z_get (ci := 4) (v := .int (nI (sg.1.length + jq))) (C := RX3) (T := TX3) (N := 12) hx hb hts in4 hown hK (hW.1 0 _ rfl) rfl 1 (by decide) fl51 (fun _ h9 => h9) rfl dX3_feed_72 ?_
      refine lv_iconst (v := nI 1) hx hb dX3_feed_75 (by decide) ?_
      refine lv_iadd hx hb dX3_feed_76 ?_
      refine zti (nI_add _ _) (y := nI (sg.1.length + jq + 1)) ?_
      refine z_put (ty := .int) (ci := 4) (v := .int (nI (sg.1.length + jq + 1))) (C := RX3) (T := TX3) (N := 12) hx hb hts in4 tyX3 tyX3_ok nmX3 hown hK hW hS 0 rfl rfl 1 (by decide) fl51 (fun _ h9 => h9) rfl (by decide +kernel) rfl rfl (Nat.le_of_ble_eq_true rfl) dX3_feed_77 (fun H locs hW hS => ?_)
      have hW : Wd D S0 (((b 0), .inr (4, [.int (nI 0), .int (nI (sg.1.length + jq + 1)), .ref (b 1), .int (nI sg.2.1.length), .ref (b 2), .int (nI sg.2.2.1.length), .ref (b 3), .ref (b 4), .ref (b 5), .ref (mI w), .int (nI sg.2.2.2.2.length), .ref (b 6)])) :: ((b 1), fa cs 400 (upd (fdR (mf w) sg.1.length x9 n9 jq) (sg.1.length + jq) (nI (fdB x9 (n9 - 1 - jq))))) :: ((b 2), qa cs 2 12 (mg w 0)) :: ((b 3), qa cs 2 12 (mg w 1)) :: ((b 4), qa cs 2 12 (mg w 2)) :: ((b 5), qa cs 2 12 (mg w 3)) :: ((b 6), qa cs 2 20 (mg w 4)) :: Z) H := hW
      refine lv_iinc (v := (nI (n9 - 1 - jq)) + Int32.ofInt (-1)) (lv' := [(4, .int ((nI (n9 - 1 - jq)) + Int32.ofInt (-1))), (0, .ref (b 0)), (1, .long x9), (3, .int (nI n9))]) hx hb dX3_feed_80 hl (k := 0) rfl rfl (by decide) rfl (fun ls hl => ?_)
      rw [z_m1, show n9 - 1 - jq = n9 - (jq + 1) by omega] at hl
      have hl : lv_has ls 5 [(4, .int (nI (n9 - (jq + 1)) - nI 1)), (0, .ref (b 0)), (1, .long x9), (3, .int (nI n9))] := hl
      refine lv_goto (tgt := 44) hx hb dX3_feed_83 (by decide) ?_
      exact ih44 (jq + 1) ls H locs (show n9 - (jq + 1) < dd44 by omega) ⟨lv_sub hl [0, 1, 2, 3] rfl, hW, hS, (show (jq + 1) ≤ n9 from by omega)⟩
  · skip
    have hc30 : 400 < sg.1.length + n9 := hc30
    omega

set_option maxHeartbeats 4000000 in
set_option maxRecDepth 100000 in
theorem c_X3_store_a (l : Launch) (D : va_G) (cs : Nat → ClassId) (S0 : Nat) (Z : va_W) (b : Nat → Nat) (w : MU) (sg : St) (hF : MF cs w sg Z) (th : Int32) (hfull : 12 ≤ sg.2.1.length)  : Met l yX3_store wsX3_store ({ frames := 1, cells := 0, slots := 0, locals := 21 }) (zM [.ref (b 0)] (fun H => Wd D S0 (MW cs b w (th) sg Z) H) D cs) (va_Qi (fun r (v : MU × va_W) => ((1 : Nat) = 0 → r = nI 0) ∧ MF cs v.1 sg (v.2 ++ Z)) (fun v t => Wd D S0 (MW cs b v.1 (nI 1) sg (v.2 ++ Z)) t.heap) (SA S0)) 0 0 (SA S0) := by
  refine Met.ofW (cc := cX3_store) (maxL := 2) (ret := (some .int)) (by decide) rfl ?_
  intro p e s m args below meth c s₁ B hml hv
  obtain ⟨rfl, hW, hK, hA9⟩ := hv
  have hx := B.exec
  have hb := B.bytes
  have hr := B.returns
  have hts := atoms_spec (ws := wsX3_store) B.pre
  have hown : s.vm.findClass RX3 = some m.cls := findClass_of_methodNamed B.named
  have hlocks := B.notSynchronized
  have hRc : (headSpec wsX3_store ({ frames := 1, cells := 0, slots := 0, locals := 21 })).room.cells = 0 := rfl
  have hRs : (headSpec wsX3_store ({ frames := 1, cells := 0, slots := 0, locals := 21 })).room.slots = 0 := rfl
  have fl33 := hts (.fieldLink RX3 33 "DeltaUpdaterModel" "thrown" "I") (by decide +kernel)
  have fl37 := hts (.fieldLink RX3 37 "DeltaUpdaterModel" "versions" "I") (by decide +kernel)
  have in4 : ∀ w ∈ u_ws RX3 TX3 12, w ∈ wsX3_store := by decide +kernel
  have hW : Wd D S0 (MW cs b w (th) sg Z) s.heap := hW
  have hS0 : S0 ≤ s.heap.size := hW.2.2
  have hS : va_S (SA S0) s.heap s.heap [] := va_S.rf
  have hl := lv_entry ([.ref (b 0)]) (n := 2) (Nat.le_of_ble_eq_true rfl)
  rw [lg_entry_eq]
  generalize (lg_sl ([.ref (b 0)]) ++ List.replicate (2 - (lg_sl ([.ref (b 0)])).length) Slot.unset).toArray = ls at hl ⊢
  have hl : lv_has ls 2 [(0, .ref (b 0))] := hl
  have hok := hF.2.2.2.2.2
  have hbl := hok.1.1
  have hnv := hok.2.1.1
  have hnp := hok.2.2.1.1
  have hnh := hok.2.2.2.2.1
  refine lv_aload_n hx hb dX3_store_0 rfl (lv_at hl 0 rfl) ?_
  refine lv_iconst (v := nI 0) hx hb dX3_store_1 (by decide) ?_
  refine z_put (ty := .int) (ci := 4) (v := .int (nI 0)) (C := RX3) (T := TX3) (N := 12) hx hb hts in4 tyX3 tyX3_ok nmX3 hown hK hW hS 0 rfl rfl 0 (by decide) fl33 (fun _ h9 => h9) rfl (by decide +kernel) rfl rfl (Nat.le_of_ble_eq_true rfl) dX3_store_2 (fun H locs hW hS => ?_)
  have hW : Wd D S0 (((b 0), .inr (4, [.int (nI 0), .int (nI sg.1.length), .ref (b 1), .int (nI sg.2.1.length), .ref (b 2), .int (nI sg.2.2.1.length), .ref (b 3), .ref (b 4), .ref (b 5), .ref (mI w), .int (nI sg.2.2.2.2.length), .ref (b 6)])) :: ((b 1), fa cs 400 (mf w)) :: ((b 2), qa cs 2 12 (mg w 0)) :: ((b 3), qa cs 2 12 (mg w 1)) :: ((b 4), qa cs 2 12 (mg w 2)) :: ((b 5), qa cs 2 12 (mg w 3)) :: ((b 6), qa cs 2 20 (mg w 4)) :: Z) H := hW
  refine lv_aload_n hx hb dX3_store_5 rfl (lv_at hl 0 rfl) ?_
  refine z_get (ci := 4) (v := .int (nI sg.2.1.length)) (C := RX3) (T := TX3) (N := 12) hx hb hts in4 hown hK (hW.1 0 _ rfl) rfl 3 (by decide) fl37 (fun _ h9 => h9) rfl dX3_store_6 ?_
  refine lv_bipush (v := nI 12) hx hb dX3_store_9 (by decide) ?_
  refine z_icmp_ne (tgt := 20) hx hb (by omega) (by omega) dX3_store_11 (by decide) (fun hc11 => ?_) (fun hc11 => ?_)
  · skip
    have hc11 : ¬ sg.2.1.length = 12 := hc11
    omega
  · skip
    have hc11 : sg.2.1.length = 12 := hc11
    refine lv_aload_n hx hb dX3_store_14 rfl (lv_at hl 0 rfl) ?_
    refine lv_iconst (v := nI 1) hx hb dX3_store_15 (by decide) ?_
    refine z_cmI (va_runV (As := [.int (nI 1)]) (rest := []) ⟨hx, hb, hml, hown, hts⟩ (c_X3_fail l D cs S0 Z b w (nI 0) (nI 1) sg) (cwV 1 hts gX3_store_X3_fail rfl rfl rfl (by decide +kernel) ⟨Nat.le_of_ble_eq_true rfl, Nat.le_of_ble_eq_true rfl⟩) ⟨zP_blind, z_recv hK (hW.1 0 _ rfl) rfl, (zP_pre hW hK)⟩ rfl rfl hl.1 rfl (lv_room (Nat.le_of_ble_eq_true rfl)) dX3_store_16 ⟨(by rw [hRc]; omega), (by rw [hRs]; omega)⟩) hS (fun r u8 H locs hu hW hS => ?_)
    rw [hu]
    have hW : Wd D S0 (((b 0), .inr (4, [.int (nI 1), .int (nI sg.1.length), .ref (b 1), .int (nI sg.2.1.length), .ref (b 2), .int (nI sg.2.2.1.length), .ref (b 3), .ref (b 4), .ref (b 5), .ref (mI w), .int (nI sg.2.2.2.2.length), .ref (b 6)])) :: ((b 1), fa cs 400 (mf w)) :: ((b 2), qa cs 2 12 (mg w 0)) :: ((b 3), qa cs 2 12 (mg w 1)) :: ((b 4), qa cs 2 12 (mg w 2)) :: ((b 5), qa cs 2 12 (mg w 3)) :: ((b 6), qa cs 2 20 (mg w 4)) :: Z) H := hW
    refine W.widen (k := 0) (n := 0) (by omega) (by omega) ?_
    exact W.iret (v := nI 0) hx hb hr (fun t ht hW9 => ⟨⟨_, (w, []), rfl, ⟨fun h9 => absurd h9 (by decide), hF⟩, (by show Wd D S0 _ _; rw [ht]; exact hW)⟩, hS.F ht⟩) (fun q9 h9 => hS.2.2 q9 h9) dX3_store_19

set_option maxHeartbeats 4000000 in
set_option maxRecDepth 100000 in
theorem c_X3_store (l : Launch) (D : va_G) (cs : Nat → ClassId) (S0 : Nat) (Z : va_W) (b : Nat → Nat) (w : MU) (sg : St) (hF : MF cs w sg Z) (th : Int32) (hroom : sg.2.1.length < 12)  : Met l yX3_store wsX3_store ({ frames := 1, cells := 1, slots := 400, locals := 40 }) (zM [.ref (b 0)] (fun H => Wd D S0 (MW cs b w (th) sg Z) H) D cs) (va_Qi (fun r (v : MU × va_W) => ((0 : Nat) = 0 → r = nI sg.2.1.length) ∧ MF cs v.1 (stB0 (stV sg sg.1) []) (v.2 ++ Z)) (fun v t => Wd D S0 (MW cs b v.1 (nI 0) (stB0 (stV sg sg.1) []) (v.2 ++ Z)) t.heap) (SA S0)) 1 400 (SA S0) := by
  refine Met.ofW (cc := cX3_store) (maxL := 2) (ret := (some .int)) (by decide) rfl ?_
  intro p e s m args below meth c s₁ B hml hv
  obtain ⟨rfl, hW, hK, hA9⟩ := hv
  have hx := B.exec
  have hb := B.bytes
  have hr := B.returns
  have hts := atoms_spec (ws := wsX3_store) B.pre
  have hown : s.vm.findClass RX3 = some m.cls := findClass_of_methodNamed B.named
  have hlocks := B.notSynchronized
  have hRc : (headSpec wsX3_store ({ frames := 1, cells := 1, slots := 400, locals := 40 })).room.cells = 1 := rfl
  have hRs : (headSpec wsX3_store ({ frames := 1, cells := 1, slots := 400, locals := 40 })).room.slots = 400 := rfl
  have fl33 := hts (.fieldLink RX3 33 "DeltaUpdaterModel" "thrown" "I") (by decide +kernel)
  have fl37 := hts (.fieldLink RX3 37 "DeltaUpdaterModel" "versions" "I") (by decide +kernel)
  have fl51 := hts (.fieldLink RX3 51 "DeltaUpdaterModel" "buffered" "I") (by decide +kernel)
  have fl9 := hts (.fieldLink RX3 9 "DeltaUpdaterModel" "buffer" "[I") (by decide +kernel)
  have in4 : ∀ w ∈ u_ws RX3 TX3 12, w ∈ wsX3_store := by decide +kernel
  have hW : Wd D S0 (MW cs b w (th) sg Z) s.heap := hW
  have hS0 : S0 ≤ s.heap.size := hW.2.2
  have hS : va_S (SA S0) s.heap s.heap [] := va_S.rf
  have hl := lv_entry ([.ref (b 0)]) (n := 2) (Nat.le_of_ble_eq_true rfl)
  rw [lg_entry_eq]
  generalize (lg_sl ([.ref (b 0)]) ++ List.replicate (2 - (lg_sl ([.ref (b 0)])).length) Slot.unset).toArray = ls at hl ⊢
  have hl : lv_has ls 2 [(0, .ref (b 0))] := hl
  have hok := hF.2.2.2.2.2
  have hbl := hok.1.1
  have hnv := hok.2.1.1
  have hnp := hok.2.2.1.1
  have hnh := hok.2.2.2.2.1
  refine lv_aload_n hx hb dX3_store_0 rfl (lv_at hl 0 rfl) ?_
  refine lv_iconst (v := nI 0) hx hb dX3_store_1 (by decide) ?_
  refine z_put (ty := .int) (ci := 4) (v := .int (nI 0)) (C := RX3) (T := TX3) (N := 12) hx hb hts in4 tyX3 tyX3_ok nmX3 hown hK hW hS 0 rfl rfl 0 (by decide) fl33 (fun _ h9 => h9) rfl (by decide +kernel) rfl rfl (Nat.le_of_ble_eq_true rfl) dX3_store_2 (fun H locs hW hS => ?_)
  have hW : Wd D S0 (((b 0), .inr (4, [.int (nI 0), .int (nI sg.1.length), .ref (b 1), .int (nI sg.2.1.length), .ref (b 2), .int (nI sg.2.2.1.length), .ref (b 3), .ref (b 4), .ref (b 5), .ref (mI w), .int (nI sg.2.2.2.2.length), .ref (b 6)])) :: ((b 1), fa cs 400 (mf w)) :: ((b 2), qa cs 2 12 (mg w 0)) :: ((b 3), qa cs 2 12 (mg w 1)) :: ((b 4), qa cs 2 12 (mg w 2)) :: ((b 5), qa cs 2 12 (mg w 3)) :: ((b 6), qa cs 2 20 (mg w 4)) :: Z) H := hW
  refine lv_aload_n hx hb dX3_store_5 rfl (lv_at hl 0 rfl) ?_
  refine z_get (ci := 4) (v := .int (nI sg.2.1.length)) (C := RX3) (T := TX3) (N := 12) hx hb hts in4 hown hK (hW.1 0 _ rfl) rfl 3 (by decide) fl37 (fun _ h9 => h9) rfl dX3_store_6 ?_
  refine lv_bipush (v := nI 12) hx hb dX3_store_9 (by decide) ?_
  refine z_icmp_ne (tgt := 20) hx hb (by omega) (by omega) dX3_store_11 (by decide) (fun hc11 => ?_) (fun hc11 => ?_)
  · skip
    have hc11 : ¬ sg.2.1.length = 12 := hc11
    refine lv_aload_n hx hb dX3_store_20 rfl (lv_at hl 0 rfl) ?_
    refine z_get (ci := 4) (v := .int (nI sg.1.length)) (C := RX3) (T := TX3) (N := 12) hx hb hts in4 hown hK (hW.1 0 _ rfl) rfl 1 (by decide) fl51 (fun _ h9 => h9) rfl dX3_store_21 ?_
    refine z_newa (n := sg.1.length) hx hb (hts (.arrayClass .int) (by decide +kernel)) hK hW hS hS0 (by omega) (by rw [hRc]; omega) (by rw [hRs]; omega) dX3_store_24 (fun q24 H hW hS => ?_)
    have hW := Wd.mv (M := [((b 0), .inr (4, [.int (nI 0), .int (nI sg.1.length), .ref (b 1), .int (nI sg.2.1.length), .ref (b 2), .int (nI sg.2.2.1.length), .ref (b 3), .ref (b 4), .ref (b 5), .ref (mI w), .int (nI sg.2.2.2.2.length), .ref (b 6)])), ((b 1), fa cs 400 (mf w)), ((b 2), qa cs 2 12 (mg w 0)), ((b 3), qa cs 2 12 (mg w 1)), ((b 4), qa cs 2 12 (mg w 2)), ((b 5), qa cs 2 12 (mg w 3)), ((b 6), qa cs 2 20 (mg w 4))]) hW
    have hW : Wd D S0 (((b 0), .inr (4, [.int (nI 0), .int (nI sg.1.length), .ref (b 1), .int (nI sg.2.1.length), .ref (b 2), .int (nI sg.2.2.1.length), .ref (b 3), .ref (b 4), .ref (b 5), .ref (mI w), .int (nI sg.2.2.2.2.length), .ref (b 6)])) :: ((b 1), fa cs 400 (mf w)) :: ((b 2), qa cs 2 12 (mg w 0)) :: ((b 3), qa cs 2 12 (mg w 1)) :: ((b 4), qa cs 2 12 (mg w 2)) :: ((b 5), qa cs 2 12 (mg w 3)) :: ((b 6), qa cs 2 20 (mg w 4)) :: (q24, fa cs sg.1.length (fun _ => 0)) :: Z) H := hW
    refine lv_astore_n (lv' := [(1, .ref q24), (0, .ref (b 0))]) hx hb dX3_store_26 rfl hl (by decide) rfl (fun ls hl => ?_)
    refine lv_aload_n hx hb dX3_store_27 rfl (lv_at hl 1 rfl) ?_
    refine z_get (ci := 4) (v := .ref (b 1)) (C := RX3) (T := TX3) (N := 12) hx hb hts in4 hown hK (hW.1 0 _ rfl) rfl 2 (by decide) fl9 (fun _ h9 => h9) rfl dX3_store_28 ?_
    refine lv_iconst (v := nI 0) hx hb dX3_store_31 (by decide) ?_
    refine lv_aload_n hx hb dX3_store_32 rfl (lv_at hl 0 rfl) ?_
    refine lv_iconst (v := nI 0) hx hb dX3_store_33 (by decide) ?_
    refine lv_aload_n hx hb dX3_store_34 rfl (lv_at hl 1 rfl) ?_
    refine z_get (ci := 4) (v := .int (nI sg.1.length)) (C := RX3) (T := TX3) (N := 12) hx hb hts in4 hown hK (hW.1 0 _ rfl) rfl 1 (by decide) fl51 (fun _ h9 => h9) rfl dX3_store_35 ?_
    refine z_copyi (k := sg.1.length) hx hb (hml.trans hl.1.symm) hown (hts (.methodLink RX3 56 arraycopyName) (by decide +kernel)) (hts (.native arraycopyName) (by decide +kernel)) (hts (.static arraycopyName) (by decide +kernel)) (hts (.initialized "java/lang/System") (by decide +kernel)) hK hW hS 1 7 rfl rfl hbl (Nat.le_refl _) (by omega) (Nat.le_of_ble_eq_true rfl) (Nat.le_of_ble_eq_true rfl) dX3_store_38 (fun H locs hW hS => ?_)
    have hW : Wd D S0 ((q24, fa cs sg.1.length (va_cpy (mf w) (fun _ => 0) 0 0 sg.1.length)) :: MW cs b w (nI 0) sg Z) H := hW.perm (List.perm_middle (l₁ := ML cs b w (nI 0) sg))
    have hW := Wd.cong (g := bb sg.1) (fun i9 hi9 => (z_cpy0 (mf w) (fun _ => 0) _ i9 hi9).trans (hF.1 i9 hi9)) hW
    have hW : Wd D S0 ((q24, fa cs sg.1.length (fun i => nI ((bv sg.1) i))) :: ((b 0), .inr (4, [.int (nI 0), .int (nI sg.1.length), .ref (b 1), .int (nI sg.2.1.length), .ref (b 2), .int (nI sg.2.2.1.length), .ref (b 3), .ref (b 4), .ref (b 5), .ref (mI w), .int (nI sg.2.2.2.2.length), .ref (b 6)])) :: ((b 1), fa cs 400 (mf w)) :: ((b 2), qa cs 2 12 (mg w 0)) :: ((b 3), qa cs 2 12 (mg w 1)) :: ((b 4), qa cs 2 12 (mg w 2)) :: ((b 5), qa cs 2 12 (mg w 3)) :: ((b 6), qa cs 2 20 (mg w 4)) :: Z) H := hW
    refine lv_aload_n hx hb dX3_store_41 rfl (lv_at hl 1 rfl) ?_
    refine lv_iconst (v := nI 0) hx hb dX3_store_42 (by decide) ?_
    refine z_put (ty := .int) (ci := 4) (v := .int (nI 0)) (C := RX3) (T := TX3) (N := 12) hx hb hts in4 tyX3 tyX3_ok nmX3 hown hK hW hS 1 rfl rfl 1 (by decide) fl51 (fun _ h9 => h9) rfl (by decide +kernel) rfl rfl (Nat.le_of_ble_eq_true rfl) dX3_store_43 (fun H locs hW hS => ?_)
    have hW : Wd D S0 ((q24, fa cs sg.1.length (fun i => nI ((bv sg.1) i))) :: ((b 0), .inr (4, [.int (nI 0), .int (nI 0), .ref (b 1), .int (nI sg.2.1.length), .ref (b 2), .int (nI sg.2.2.1.length), .ref (b 3), .ref (b 4), .ref (b 5), .ref (mI w), .int (nI sg.2.2.2.2.length), .ref (b 6)])) :: ((b 1), fa cs 400 (mf w)) :: ((b 2), qa cs 2 12 (mg w 0)) :: ((b 3), qa cs 2 12 (mg w 1)) :: ((b 4), qa cs 2 12 (mg w 2)) :: ((b 5), qa cs 2 12 (mg w 3)) :: ((b 6), qa cs 2 20 (mg w 4)) :: Z) H := hW
    refine lv_aload_n hx hb dX3_store_46 rfl (lv_at hl 1 rfl) ?_
    refine lv_aload_n hx hb dX3_store_47 rfl (lv_at hl 0 rfl) ?_
    have hF2 : MF cs w (stB0 sg []) ([(q24, ba cs sg.1)] ++ Z) := (hF.buf (f := mf w) rowOk_nil (fun i9 hi9 => absurd hi9 (Nat.not_lt_zero i9))).more (fun q9 h9 => List.mem_cons_of_mem _ h9)
    have hW : Wd D S0 (MW cs b w (nI 0) (stB0 sg []) ([(q24, ba cs sg.1)] ++ Z)) H := MW.grow (G := [(q24, ba cs sg.1)]) (σ := stB0 sg []) hW
    refine z_cmI (va_runV (As := [.ref q24]) (rest := []) ⟨hx, hb, hml, hown, hts⟩ (c_X3_keep l D cs S0 ([(q24, ba cs sg.1)] ++ Z) b w (stB0 sg []) hF2 (nI 0) q24 sg.1 List.mem_cons_self hok.1 (show sg.2.1.length < 12 by omega)) (cwV 1 hts gX3_store_X3_keep rfl rfl rfl (by decide +kernel) ⟨Nat.le_of_ble_eq_true rfl, Nat.le_of_ble_eq_true rfl⟩) ⟨zM_blind, z_recv hK (hW.1 0 _ rfl) rfl, (zM_pre hW hK hA9)⟩ rfl rfl hl.1 rfl (lv_room (Nat.le_of_ble_eq_true rfl)) dX3_store_48 ⟨(by rw [hRc]; omega), (by rw [hRs]; omega)⟩) hS (fun r u8 H locs hu hW hS => ?_)
    obtain ⟨hu1, hu2⟩ := hu
    rw [hu1]
    rw [← List.append_assoc] at hW hu2
    refine W.widen (k := 1) (n := 400) (by omega) (by omega) ?_
    exact W.iret (v := nI sg.2.1.length) hx hb hr (fun t ht hW9 => ⟨⟨_, (u8.1, u8.2 ++ [(q24, ba cs sg.1)]), rfl, ⟨fun _ => rfl, hu2⟩, (by show Wd D S0 _ _; rw [ht]; exact hW)⟩, hS.F ht⟩) (fun q9 h9 => hS.2.2 q9 h9) dX3_store_51
  · skip
    have hc11 : sg.2.1.length = 12 := hc11
    omega

set_option maxHeartbeats 4000000 in
set_option maxRecDepth 100000 in
theorem c_X3_instructions_a (l : Launch) (D : va_G) (cs : Nat → ClassId) (S0 : Nat) (Z : va_W) (b : Nat → Nat) (w : MU) (sg : St) (hF : MF cs w sg Z) (th : Int32) (v : Int32) (hv : vI v sg.2.2.1.length = false)  : Met l yX3_instructions wsX3_instructions ({ frames := 2, cells := 0, slots := 0, locals := 43 }) (zM [.ref (b 0), .int v] (fun H => Wd D S0 (MW cs b w (th) sg Z) H) D cs) (va_Qi (fun r (v : MU × va_W) => ((1 : Nat) = 0 → r = nI 0) ∧ MF cs v.1 sg (v.2 ++ Z)) (fun v t => Wd D S0 (MW cs b v.1 (nI 1) sg (v.2 ++ Z)) t.heap) (SA S0)) 0 0 (SA S0) := by
  refine Met.ofW (cc := cX3_instructions) (maxL := 2) (ret := (some .int)) (by decide) rfl ?_
  intro p e s m args below meth c s₁ B hml hv
  obtain ⟨rfl, hW, hK, hA9⟩ := hv
  have hx := B.exec
  have hb := B.bytes
  have hr := B.returns
  have hts := atoms_spec (ws := wsX3_instructions) B.pre
  have hown : s.vm.findClass RX3 = some m.cls := findClass_of_methodNamed B.named
  have hlocks := B.notSynchronized
  have hRc : (headSpec wsX3_instructions ({ frames := 2, cells := 0, slots := 0, locals := 43 })).room.cells = 0 := rfl
  have hRs : (headSpec wsX3_instructions ({ frames := 2, cells := 0, slots := 0, locals := 43 })).room.slots = 0 := rfl
  have fl33 := hts (.fieldLink RX3 33 "DeltaUpdaterModel" "thrown" "I") (by decide +kernel)
  have in4 : ∀ w ∈ u_ws RX3 TX3 12, w ∈ wsX3_instructions := by decide +kernel
  have hW : Wd D S0 (MW cs b w (th) sg Z) s.heap := hW
  have hS0 : S0 ≤ s.heap.size := hW.2.2
  have hS : va_S (SA S0) s.heap s.heap [] := va_S.rf
  have hl := lv_entry ([.ref (b 0), .int v]) (n := 2) (Nat.le_of_ble_eq_true rfl)
  rw [lg_entry_eq]
  generalize (lg_sl ([.ref (b 0), .int v]) ++ List.replicate (2 - (lg_sl ([.ref (b 0), .int v])).length) Slot.unset).toArray = ls at hl ⊢
  have hl : lv_has ls 2 [(0, .ref (b 0)), (1, .int v)] := hl
  have hok := hF.2.2.2.2.2
  have hbl := hok.1.1
  have hnv := hok.2.1.1
  have hnp := hok.2.2.1.1
  have hnh := hok.2.2.2.2.1
  refine lv_aload_n hx hb dX3_instructions_0 rfl (lv_at hl 0 rfl) ?_
  refine lv_iconst (v := nI 0) hx hb dX3_instructions_1 (by decide) ?_
  refine z_put (ty := .int) (ci := 4) (v := .int (nI 0)) (C := RX3) (T := TX3) (N := 12) hx hb hts in4 tyX3 tyX3_ok nmX3 hown hK hW hS 0 rfl rfl 0 (by decide) fl33 (fun _ h9 => h9) rfl (by decide +kernel) rfl rfl (Nat.le_of_ble_eq_true rfl) dX3_instructions_2 (fun H locs hW hS => ?_)
  have hW : Wd D S0 (((b 0), .inr (4, [.int (nI 0), .int (nI sg.1.length), .ref (b 1), .int (nI sg.2.1.length), .ref (b 2), .int (nI sg.2.2.1.length), .ref (b 3), .ref (b 4), .ref (b 5), .ref (mI w), .int (nI sg.2.2.2.2.length), .ref (b 6)])) :: ((b 1), fa cs 400 (mf w)) :: ((b 2), qa cs 2 12 (mg w 0)) :: ((b 3), qa cs 2 12 (mg w 1)) :: ((b 4), qa cs 2 12 (mg w 2)) :: ((b 5), qa cs 2 12 (mg w 3)) :: ((b 6), qa cs 2 20 (mg w 4)) :: Z) H := hW
  refine lv_aload_n hx hb dX3_instructions_5 rfl (lv_at hl 0 rfl) ?_
  refine lv_iload_n hx hb dX3_instructions_6 rfl (lv_at hl 1 rfl) ?_
  refine z_csV (As := [.int v]) (rest := []) ⟨hx, hb, hml, hown, hts⟩ (c_X3_isPatch l D cs (b 0) [.int (nI 0), .int (nI sg.1.length), .ref (b 1), .int (nI sg.2.1.length), .ref (b 2), .int (nI sg.2.2.1.length), .ref (b 3), .ref (b 4), .ref (b 5), .ref (mI w), .int (nI sg.2.2.2.2.length), .ref (b 6)] v sg.2.2.1.length rfl) (cwV 1 hts gX3_instructions_X3_isPatch rfl rfl rfl (by decide +kernel) ⟨Nat.le_of_ble_eq_true rfl, Nat.le_of_ble_eq_true rfl⟩) (hW.1 0 _ rfl) rfl (hW.1 0 _ rfl) hK rfl hl.1 rfl (Nat.le_of_ble_eq_true rfl) dX3_instructions_7 ⟨(by rw [hRc]; omega), (by rw [hRs]; omega)⟩ (fun r hq9 => ?_)
  have hq9 : r = bI (vI v sg.2.2.1.length) := hq9
  subst hq9
  refine z_ifb_eq (tgt := 21) hx hb dX3_instructions_10 (by decide) (fun _ => ?_) (fun h9 => absurd (h9.symm.trans hv) (by decide))
  refine lv_aload_n hx hb dX3_instructions_21 rfl (lv_at hl 0 rfl) ?_
  refine lv_iconst (v := nI 1) hx hb dX3_instructions_22 (by decide) ?_
  refine z_cmI (va_runV (As := [.int (nI 1)]) (rest := []) ⟨hx, hb, hml, hown, hts⟩ (c_X3_fail l D cs S0 Z b w (nI 0) (nI 1) sg) (cwV 1 hts gX3_instructions_X3_fail rfl rfl rfl (by decide +kernel) ⟨Nat.le_of_ble_eq_true rfl, Nat.le_of_ble_eq_true rfl⟩) ⟨zP_blind, z_recv hK (hW.1 0 _ rfl) rfl, (zP_pre hW hK)⟩ rfl rfl hl.1 rfl (lv_room (Nat.le_of_ble_eq_true rfl)) dX3_instructions_23 ⟨(by rw [hRc]; omega), (by rw [hRs]; omega)⟩) hS (fun r u8 H locs hu hW hS => ?_)
  rw [hu]
  have hW : Wd D S0 (((b 0), .inr (4, [.int (nI 1), .int (nI sg.1.length), .ref (b 1), .int (nI sg.2.1.length), .ref (b 2), .int (nI sg.2.2.1.length), .ref (b 3), .ref (b 4), .ref (b 5), .ref (mI w), .int (nI sg.2.2.2.2.length), .ref (b 6)])) :: ((b 1), fa cs 400 (mf w)) :: ((b 2), qa cs 2 12 (mg w 0)) :: ((b 3), qa cs 2 12 (mg w 1)) :: ((b 4), qa cs 2 12 (mg w 2)) :: ((b 5), qa cs 2 12 (mg w 3)) :: ((b 6), qa cs 2 20 (mg w 4)) :: Z) H := hW
  refine W.widen (k := 0) (n := 0) (by omega) (by omega) ?_
  exact W.iret (v := nI 0) hx hb hr (fun t ht hW9 => ⟨⟨_, (w, []), rfl, ⟨fun h9 => absurd h9 (by decide), hF⟩, (by show Wd D S0 _ _; rw [ht]; exact hW)⟩, hS.F ht⟩) (fun q9 h9 => hS.2.2 q9 h9) dX3_instructions_26

set_option maxHeartbeats 4000000 in
set_option maxRecDepth 100000 in
theorem c_X3_instructions (l : Launch) (D : va_G) (cs : Nat → ClassId) (S0 : Nat) (Z : va_W) (b : Nat → Nat) (w : MU) (sg : St) (hF : MF cs w sg Z) (th : Int32) (j9 : Nat) (hj : j9 < sg.2.2.1.length)  : Met l yX3_instructions wsX3_instructions ({ frames := 2, cells := 0, slots := 0, locals := 47 }) (zM [.ref (b 0), .int (nI j9)] (fun H => Wd D S0 (MW cs b w (th) sg Z) H) D cs) (va_Qi (fun r (v : MU × va_W) => ((0 : Nat) = 0 → r = nI (manyN (rf (psN sg.2.2.1 j9).2.2) (psN sg.2.2.1 j9).2.1.length)) ∧ MF cs v.1 sg (v.2 ++ Z)) (fun v t => Wd D S0 (MW cs b v.1 (nI 0) sg (v.2 ++ Z)) t.heap) (SA S0)) 0 0 (SA S0) := by
  refine Met.ofW (cc := cX3_instructions) (maxL := 2) (ret := (some .int)) (by decide) rfl ?_
  intro p e s m args below meth c s₁ B hml hv
  obtain ⟨rfl, hW, hK, hA9⟩ := hv
  have hx := B.exec
  have hb := B.bytes
  have hr := B.returns
  have hts := atoms_spec (ws := wsX3_instructions) B.pre
  have hown : s.vm.findClass RX3 = some m.cls := findClass_of_methodNamed B.named
  have hlocks := B.notSynchronized
  have hRc : (headSpec wsX3_instructions ({ frames := 2, cells := 0, slots := 0, locals := 47 })).room.cells = 0 := rfl
  have hRs : (headSpec wsX3_instructions ({ frames := 2, cells := 0, slots := 0, locals := 47 })).room.slots = 0 := rfl
  have fl33 := hts (.fieldLink RX3 33 "DeltaUpdaterModel" "thrown" "I") (by decide +kernel)
  have in4 : ∀ w ∈ u_ws RX3 TX3 12, w ∈ wsX3_instructions := by decide +kernel
  have hW : Wd D S0 (MW cs b w (th) sg Z) s.heap := hW
  have hS0 : S0 ≤ s.heap.size := hW.2.2
  have hS : va_S (SA S0) s.heap s.heap [] := va_S.rf
  have hl := lv_entry ([.ref (b 0), .int (nI j9)]) (n := 2) (Nat.le_of_ble_eq_true rfl)
  rw [lg_entry_eq]
  generalize (lg_sl ([.ref (b 0), .int (nI j9)]) ++ List.replicate (2 - (lg_sl ([.ref (b 0), .int (nI j9)])).length) Slot.unset).toArray = ls at hl ⊢
  have hl : lv_has ls 2 [(0, .ref (b 0)), (1, .int (nI j9))] := hl
  have hok := hF.2.2.2.2.2
  have hbl := hok.1.1
  have hnv := hok.2.1.1
  have hnp := hok.2.2.1.1
  have hnh := hok.2.2.2.2.1
  have hji := vI_in hj (show sg.2.2.1.length < 2 ^ 30 by omega)
  have hlp := (hok.2.2.1.2 j9 hj).2.1.1
  refine lv_aload_n hx hb dX3_instructions_0 rfl (lv_at hl 0 rfl) ?_
  refine lv_iconst (v := nI 0) hx hb dX3_instructions_1 (by decide) ?_
  refine z_put (ty := .int) (ci := 4) (v := .int (nI 0)) (C := RX3) (T := TX3) (N := 12) hx hb hts in4 tyX3 tyX3_ok nmX3 hown hK hW hS 0 rfl rfl 0 (by decide) fl33 (fun _ h9 => h9) rfl (by decide +kernel) rfl rfl (Nat.le_of_ble_eq_true rfl) dX3_instructions_2 (fun H locs hW hS => ?_)
  have hW : Wd D S0 (((b 0), .inr (4, [.int (nI 0), .int (nI sg.1.length), .ref (b 1), .int (nI sg.2.1.length), .ref (b 2), .int (nI sg.2.2.1.length), .ref (b 3), .ref (b 4), .ref (b 5), .ref (mI w), .int (nI sg.2.2.2.2.length), .ref (b 6)])) :: ((b 1), fa cs 400 (mf w)) :: ((b 2), qa cs 2 12 (mg w 0)) :: ((b 3), qa cs 2 12 (mg w 1)) :: ((b 4), qa cs 2 12 (mg w 2)) :: ((b 5), qa cs 2 12 (mg w 3)) :: ((b 6), qa cs 2 20 (mg w 4)) :: Z) H := hW
  refine lv_aload_n hx hb dX3_instructions_5 rfl (lv_at hl 0 rfl) ?_
  refine lv_iload_n hx hb dX3_instructions_6 rfl (lv_at hl 1 rfl) ?_
  refine z_csV (As := [.int (nI j9)]) (rest := []) ⟨hx, hb, hml, hown, hts⟩ (c_X3_isPatch l D cs (b 0) [.int (nI 0), .int (nI sg.1.length), .ref (b 1), .int (nI sg.2.1.length), .ref (b 2), .int (nI sg.2.2.1.length), .ref (b 3), .ref (b 4), .ref (b 5), .ref (mI w), .int (nI sg.2.2.2.2.length), .ref (b 6)] (nI j9) sg.2.2.1.length rfl) (cwV 1 hts gX3_instructions_X3_isPatch rfl rfl rfl (by decide +kernel) ⟨Nat.le_of_ble_eq_true rfl, Nat.le_of_ble_eq_true rfl⟩) (hW.1 0 _ rfl) rfl (hW.1 0 _ rfl) hK rfl hl.1 rfl (Nat.le_of_ble_eq_true rfl) dX3_instructions_7 ⟨(by rw [hRc]; omega), (by rw [hRs]; omega)⟩ (fun r hq9 => ?_)
  have hq9 : r = bI (vI (nI j9) sg.2.2.1.length) := hq9
  subst hq9
  refine z_ifb_eq (tgt := 21) hx hb dX3_instructions_10 (by decide) (fun h9 => absurd (h9.symm.trans hji) (by decide)) (fun _ => ?_)
  refine lv_aload_n hx hb dX3_instructions_13 rfl (lv_at hl 0 rfl) ?_
  refine lv_iload_n hx hb dX3_instructions_14 rfl (lv_at hl 1 rfl) ?_
  refine z_csV (As := [.int (nI j9)]) (rest := []) ⟨hx, hb, hml, hown, hts⟩ (c_X3_many l D cs (b 0) (b 5) sg.2.2.1.length [.int (nI 0), .int (nI sg.1.length), .ref (b 1), .int (nI sg.2.1.length), .ref (b 2), .int (nI sg.2.2.1.length), .ref (b 3), .ref (b 4), .ref (b 5), .ref (mI w), .int (nI sg.2.2.2.2.length), .ref (b 6)] (mg w 3) rfl j9 hj hnp (mA w 3 j9) (psN sg.2.2.1 j9).2.1.length (hF.2.2.1 j9 hj).2.2.1 (rf (psN sg.2.2.1 j9).2.2) (by omega)) (cwV 1 hts gX3_instructions_X3_many rfl rfl rfl (by decide +kernel) ⟨Nat.le_of_ble_eq_true rfl, Nat.le_of_ble_eq_true rfl⟩) (hW.1 0 _ rfl) rfl ⟨(hW.1 0 _ rfl), (hW.1 5 _ rfl), (hW.mem (List.mem_cons_of_mem _ (List.mem_cons_of_mem _ (List.mem_cons_of_mem _ (List.mem_cons_of_mem _ (List.mem_cons_of_mem _ (List.mem_cons_of_mem _ (List.mem_cons_of_mem _ (hF.2.2.1 j9 hj).2.2.2))))))))⟩ hK rfl hl.1 rfl (Nat.le_of_ble_eq_true rfl) dX3_instructions_15 ⟨(by rw [hRc]; omega), (by rw [hRs]; omega)⟩ (fun r hq9 => ?_)
  have hq9 : r = nI (manyN (rf (psN sg.2.2.1 j9).2.2) (psN sg.2.2.1 j9).2.1.length) := hq9
  subst hq9
  refine lv_goto (tgt := 26) hx hb dX3_instructions_18 (by decide) ?_
  refine W.widen (k := 0) (n := 0) (by omega) (by omega) ?_
  exact W.iret (v := nI (manyN (rf (psN sg.2.2.1 j9).2.2) (psN sg.2.2.1 j9).2.1.length)) hx hb hr (fun t ht hW9 => ⟨⟨_, (w, []), rfl, ⟨fun _ => rfl, hF⟩, (by show Wd D S0 _ _; rw [ht]; exact hW)⟩, hS.F ht⟩) (fun q9 h9 => hS.2.2 q9 h9) dX3_instructions_26

set_option maxHeartbeats 4000000 in
set_option maxRecDepth 100000 in
theorem c_X3_cost_a (l : Launch) (D : va_G) (cs : Nat → ClassId) (S0 : Nat) (Z : va_W) (b : Nat → Nat) (w : MU) (sg : St) (hF : MF cs w sg Z) (th : Int32) (v : Int32) (hv : vI v sg.2.2.1.length = false)  : Met l yX3_cost wsX3_cost ({ frames := 2, cells := 0, slots := 0, locals := 43 }) (zM [.ref (b 0), .int v] (fun H => Wd D S0 (MW cs b w (th) sg Z) H) D cs) (va_Qi (fun r (v : MU × va_W) => ((1 : Nat) = 0 → r = nI 0) ∧ MF cs v.1 sg (v.2 ++ Z)) (fun v t => Wd D S0 (MW cs b v.1 (nI 1) sg (v.2 ++ Z)) t.heap) (SA S0)) 0 0 (SA S0) := by
  refine Met.ofW (cc := cX3_cost) (maxL := 2) (ret := (some .int)) (by decide) rfl ?_
  intro p e s m args below meth c s₁ B hml hv
  obtain ⟨rfl, hW, hK, hA9⟩ := hv
  have hx := B.exec
  have hb := B.bytes
  have hr := B.returns
  have hts := atoms_spec (ws := wsX3_cost) B.pre
  have hown : s.vm.findClass RX3 = some m.cls := findClass_of_methodNamed B.named
  have hlocks := B.notSynchronized
  have hRc : (headSpec wsX3_cost ({ frames := 2, cells := 0, slots := 0, locals := 43 })).room.cells = 0 := rfl
  have hRs : (headSpec wsX3_cost ({ frames := 2, cells := 0, slots := 0, locals := 43 })).room.slots = 0 := rfl
  have fl33 := hts (.fieldLink RX3 33 "DeltaUpdaterModel" "thrown" "I") (by decide +kernel)
  have in4 : ∀ w ∈ u_ws RX3 TX3 12, w ∈ wsX3_cost := by decide +kernel
  have hW : Wd D S0 (MW cs b w (th) sg Z) s.heap := hW
  have hS0 : S0 ≤ s.heap.size := hW.2.2
  have hS : va_S (SA S0) s.heap s.heap [] := va_S.rf
  have hl := lv_entry ([.ref (b 0), .int v]) (n := 2) (Nat.le_of_ble_eq_true rfl)
  rw [lg_entry_eq]
  generalize (lg_sl ([.ref (b 0), .int v]) ++ List.replicate (2 - (lg_sl ([.ref (b 0), .int v])).length) Slot.unset).toArray = ls at hl ⊢
  have hl : lv_has ls 2 [(0, .ref (b 0)), (1, .int v)] := hl
  have hok := hF.2.2.2.2.2
  have hbl := hok.1.1
  have hnv := hok.2.1.1
  have hnp := hok.2.2.1.1
  have hnh := hok.2.2.2.2.1
  refine lv_aload_n hx hb dX3_cost_0 rfl (lv_at hl 0 rfl) ?_
  refine lv_iconst (v := nI 0) hx hb dX3_cost_1 (by decide) ?_
  refine z_put (ty := .int) (ci := 4) (v := .int (nI 0)) (C := RX3) (T := TX3) (N := 12) hx hb hts in4 tyX3 tyX3_ok nmX3 hown hK hW hS 0 rfl rfl 0 (by decide) fl33 (fun _ h9 => h9) rfl (by decide +kernel) rfl rfl (Nat.le_of_ble_eq_true rfl) dX3_cost_2 (fun H locs hW hS => ?_)
  have hW : Wd D S0 (((b 0), .inr (4, [.int (nI 0), .int (nI sg.1.length), .ref (b 1), .int (nI sg.2.1.length), .ref (b 2), .int (nI sg.2.2.1.length), .ref (b 3), .ref (b 4), .ref (b 5), .ref (mI w), .int (nI sg.2.2.2.2.length), .ref (b 6)])) :: ((b 1), fa cs 400 (mf w)) :: ((b 2), qa cs 2 12 (mg w 0)) :: ((b 3), qa cs 2 12 (mg w 1)) :: ((b 4), qa cs 2 12 (mg w 2)) :: ((b 5), qa cs 2 12 (mg w 3)) :: ((b 6), qa cs 2 20 (mg w 4)) :: Z) H := hW
  refine lv_aload_n hx hb dX3_cost_5 rfl (lv_at hl 0 rfl) ?_
  refine lv_iload_n hx hb dX3_cost_6 rfl (lv_at hl 1 rfl) ?_
  refine z_csV (As := [.int v]) (rest := []) ⟨hx, hb, hml, hown, hts⟩ (c_X3_isPatch l D cs (b 0) [.int (nI 0), .int (nI sg.1.length), .ref (b 1), .int (nI sg.2.1.length), .ref (b 2), .int (nI sg.2.2.1.length), .ref (b 3), .ref (b 4), .ref (b 5), .ref (mI w), .int (nI sg.2.2.2.2.length), .ref (b 6)] v sg.2.2.1.length rfl) (cwV 1 hts gX3_cost_X3_isPatch rfl rfl rfl (by decide +kernel) ⟨Nat.le_of_ble_eq_true rfl, Nat.le_of_ble_eq_true rfl⟩) (hW.1 0 _ rfl) rfl (hW.1 0 _ rfl) hK rfl hl.1 rfl (Nat.le_of_ble_eq_true rfl) dX3_cost_7 ⟨(by rw [hRc]; omega), (by rw [hRs]; omega)⟩ (fun r hq9 => ?_)
  have hq9 : r = bI (vI v sg.2.2.1.length) := hq9
  subst hq9
  refine z_ifb_eq (tgt := 21) hx hb dX3_cost_10 (by decide) (fun _ => ?_) (fun h9 => absurd (h9.symm.trans hv) (by decide))
  refine lv_aload_n hx hb dX3_cost_21 rfl (lv_at hl 0 rfl) ?_
  refine lv_iconst (v := nI 1) hx hb dX3_cost_22 (by decide) ?_
  refine z_cmI (va_runV (As := [.int (nI 1)]) (rest := []) ⟨hx, hb, hml, hown, hts⟩ (c_X3_fail l D cs S0 Z b w (nI 0) (nI 1) sg) (cwV 1 hts gX3_cost_X3_fail rfl rfl rfl (by decide +kernel) ⟨Nat.le_of_ble_eq_true rfl, Nat.le_of_ble_eq_true rfl⟩) ⟨zP_blind, z_recv hK (hW.1 0 _ rfl) rfl, (zP_pre hW hK)⟩ rfl rfl hl.1 rfl (lv_room (Nat.le_of_ble_eq_true rfl)) dX3_cost_23 ⟨(by rw [hRc]; omega), (by rw [hRs]; omega)⟩) hS (fun r u8 H locs hu hW hS => ?_)
  rw [hu]
  have hW : Wd D S0 (((b 0), .inr (4, [.int (nI 1), .int (nI sg.1.length), .ref (b 1), .int (nI sg.2.1.length), .ref (b 2), .int (nI sg.2.2.1.length), .ref (b 3), .ref (b 4), .ref (b 5), .ref (mI w), .int (nI sg.2.2.2.2.length), .ref (b 6)])) :: ((b 1), fa cs 400 (mf w)) :: ((b 2), qa cs 2 12 (mg w 0)) :: ((b 3), qa cs 2 12 (mg w 1)) :: ((b 4), qa cs 2 12 (mg w 2)) :: ((b 5), qa cs 2 12 (mg w 3)) :: ((b 6), qa cs 2 20 (mg w 4)) :: Z) H := hW
  refine W.widen (k := 0) (n := 0) (by omega) (by omega) ?_
  exact W.iret (v := nI 0) hx hb hr (fun t ht hW9 => ⟨⟨_, (w, []), rfl, ⟨fun h9 => absurd h9 (by decide), hF⟩, (by show Wd D S0 _ _; rw [ht]; exact hW)⟩, hS.F ht⟩) (fun q9 h9 => hS.2.2 q9 h9) dX3_cost_26

set_option maxHeartbeats 4000000 in
set_option maxRecDepth 100000 in
theorem c_X3_cost (l : Launch) (D : va_G) (cs : Nat → ClassId) (S0 : Nat) (Z : va_W) (b : Nat → Nat) (w : MU) (sg : St) (hF : MF cs w sg Z) (th : Int32) (j9 : Nat) (hj : j9 < sg.2.2.1.length)  : Met l yX3_cost wsX3_cost ({ frames := 2, cells := 0, slots := 0, locals := 49 }) (zM [.ref (b 0), .int (nI j9)] (fun H => Wd D S0 (MW cs b w (th) sg Z) H) D cs) (va_Qi (fun r (v : MU × va_W) => ((0 : Nat) = 0 → r = nI (costN (rf (psN sg.2.2.1 j9).2.2) (psN sg.2.2.1 j9).2.1.length)) ∧ MF cs v.1 sg (v.2 ++ Z)) (fun v t => Wd D S0 (MW cs b v.1 (nI 0) sg (v.2 ++ Z)) t.heap) (SA S0)) 0 0 (SA S0) := by
  refine Met.ofW (cc := cX3_cost) (maxL := 2) (ret := (some .int)) (by decide) rfl ?_
  intro p e s m args below meth c s₁ B hml hv
  obtain ⟨rfl, hW, hK, hA9⟩ := hv
  have hx := B.exec
  have hb := B.bytes
  have hr := B.returns
  have hts := atoms_spec (ws := wsX3_cost) B.pre
  have hown : s.vm.findClass RX3 = some m.cls := findClass_of_methodNamed B.named
  have hlocks := B.notSynchronized
  have hRc : (headSpec wsX3_cost ({ frames := 2, cells := 0, slots := 0, locals := 49 })).room.cells = 0 := rfl
  have hRs : (headSpec wsX3_cost ({ frames := 2, cells := 0, slots := 0, locals := 49 })).room.slots = 0 := rfl
  have fl33 := hts (.fieldLink RX3 33 "DeltaUpdaterModel" "thrown" "I") (by decide +kernel)
  have in4 : ∀ w ∈ u_ws RX3 TX3 12, w ∈ wsX3_cost := by decide +kernel
  have hW : Wd D S0 (MW cs b w (th) sg Z) s.heap := hW
  have hS0 : S0 ≤ s.heap.size := hW.2.2
  have hS : va_S (SA S0) s.heap s.heap [] := va_S.rf
  have hl := lv_entry ([.ref (b 0), .int (nI j9)]) (n := 2) (Nat.le_of_ble_eq_true rfl)
  rw [lg_entry_eq]
  generalize (lg_sl ([.ref (b 0), .int (nI j9)]) ++ List.replicate (2 - (lg_sl ([.ref (b 0), .int (nI j9)])).length) Slot.unset).toArray = ls at hl ⊢
  have hl : lv_has ls 2 [(0, .ref (b 0)), (1, .int (nI j9))] := hl
  have hok := hF.2.2.2.2.2
  have hbl := hok.1.1
  have hnv := hok.2.1.1
  have hnp := hok.2.2.1.1
  have hnh := hok.2.2.2.2.1
  have hji := vI_in hj (show sg.2.2.1.length < 2 ^ 30 by omega)
  have hlp := (hok.2.2.1.2 j9 hj).2.1.1
  refine lv_aload_n hx hb dX3_cost_0 rfl (lv_at hl 0 rfl) ?_
  refine lv_iconst (v := nI 0) hx hb dX3_cost_1 (by decide) ?_
  refine z_put (ty := .int) (ci := 4) (v := .int (nI 0)) (C := RX3) (T := TX3) (N := 12) hx hb hts in4 tyX3 tyX3_ok nmX3 hown hK hW hS 0 rfl rfl 0 (by decide) fl33 (fun _ h9 => h9) rfl (by decide +kernel) rfl rfl (Nat.le_of_ble_eq_true rfl) dX3_cost_2 (fun H locs hW hS => ?_)
  have hW : Wd D S0 (((b 0), .inr (4, [.int (nI 0), .int (nI sg.1.length), .ref (b 1), .int (nI sg.2.1.length), .ref (b 2), .int (nI sg.2.2.1.length), .ref (b 3), .ref (b 4), .ref (b 5), .ref (mI w), .int (nI sg.2.2.2.2.length), .ref (b 6)])) :: ((b 1), fa cs 400 (mf w)) :: ((b 2), qa cs 2 12 (mg w 0)) :: ((b 3), qa cs 2 12 (mg w 1)) :: ((b 4), qa cs 2 12 (mg w 2)) :: ((b 5), qa cs 2 12 (mg w 3)) :: ((b 6), qa cs 2 20 (mg w 4)) :: Z) H := hW
  refine lv_aload_n hx hb dX3_cost_5 rfl (lv_at hl 0 rfl) ?_
  refine lv_iload_n hx hb dX3_cost_6 rfl (lv_at hl 1 rfl) ?_
  refine z_csV (As := [.int (nI j9)]) (rest := []) ⟨hx, hb, hml, hown, hts⟩ (c_X3_isPatch l D cs (b 0) [.int (nI 0), .int (nI sg.1.length), .ref (b 1), .int (nI sg.2.1.length), .ref (b 2), .int (nI sg.2.2.1.length), .ref (b 3), .ref (b 4), .ref (b 5), .ref (mI w), .int (nI sg.2.2.2.2.length), .ref (b 6)] (nI j9) sg.2.2.1.length rfl) (cwV 1 hts gX3_cost_X3_isPatch rfl rfl rfl (by decide +kernel) ⟨Nat.le_of_ble_eq_true rfl, Nat.le_of_ble_eq_true rfl⟩) (hW.1 0 _ rfl) rfl (hW.1 0 _ rfl) hK rfl hl.1 rfl (Nat.le_of_ble_eq_true rfl) dX3_cost_7 ⟨(by rw [hRc]; omega), (by rw [hRs]; omega)⟩ (fun r hq9 => ?_)
  have hq9 : r = bI (vI (nI j9) sg.2.2.1.length) := hq9
  subst hq9
  refine z_ifb_eq (tgt := 21) hx hb dX3_cost_10 (by decide) (fun h9 => absurd (h9.symm.trans hji) (by decide)) (fun _ => ?_)
  refine lv_aload_n hx hb dX3_cost_13 rfl (lv_at hl 0 rfl) ?_
  refine lv_iload_n hx hb dX3_cost_14 rfl (lv_at hl 1 rfl) ?_
  refine z_csV (As := [.int (nI j9)]) (rest := []) ⟨hx, hb, hml, hown, hts⟩ (c_X3_costOf l D cs (b 0) (b 5) sg.2.2.1.length [.int (nI 0), .int (nI sg.1.length), .ref (b 1), .int (nI sg.2.1.length), .ref (b 2), .int (nI sg.2.2.1.length), .ref (b 3), .ref (b 4), .ref (b 5), .ref (mI w), .int (nI sg.2.2.2.2.length), .ref (b 6)] (mg w 3) rfl j9 hj hnp (mA w 3 j9) (psN sg.2.2.1 j9).2.1.length (hF.2.2.1 j9 hj).2.2.1 (rf (psN sg.2.2.1 j9).2.2) (by omega)) (cwV 1 hts gX3_cost_X3_costOf rfl rfl rfl (by decide +kernel) ⟨Nat.le_of_ble_eq_true rfl, Nat.le_of_ble_eq_true rfl⟩) (hW.1 0 _ rfl) rfl ⟨(hW.1 0 _ rfl), (hW.1 5 _ rfl), (hW.mem (List.mem_cons_of_mem _ (List.mem_cons_of_mem _ (List.mem_cons_of_mem _ (List.mem_cons_of_mem _ (List.mem_cons_of_mem _ (List.mem_cons_of_mem _ (List.mem_cons_of_mem _ (hF.2.2.1 j9 hj).2.2.2))))))))⟩ hK rfl hl.1 rfl (Nat.le_of_ble_eq_true rfl) dX3_cost_15 ⟨(by rw [hRc]; omega), (by rw [hRs]; omega)⟩ (fun r hq9 => ?_)
  have hq9 : r = nI (costN (rf (psN sg.2.2.1 j9).2.2) (psN sg.2.2.1 j9).2.1.length) := hq9
  subst hq9
  refine lv_goto (tgt := 26) hx hb dX3_cost_18 (by decide) ?_
  refine W.widen (k := 0) (n := 0) (by omega) (by omega) ?_
  exact W.iret (v := nI (costN (rf (psN sg.2.2.1 j9).2.2) (psN sg.2.2.1 j9).2.1.length)) hx hb hr (fun t ht hW9 => ⟨⟨_, (w, []), rfl, ⟨fun _ => rfl, hF⟩, (by show Wd D S0 _ _; rw [ht]; exact hW)⟩, hS.F ht⟩) (fun q9 h9 => hS.2.2 q9 h9) dX3_cost_26

set_option maxHeartbeats 4000000 in
set_option maxRecDepth 100000 in
theorem c_X3_instruction_a (l : Launch) (D : va_G) (cs : Nat → ClassId) (S0 : Nat) (Z : va_W) (b : Nat → Nat) (w : MU) (sg : St) (hF : MF cs w sg Z) (th : Int32) (v : Int32) (hv : vI v sg.2.2.1.length = false) (w9i z : Int32)  : Met l yX3_instruction wsX3_instruction ({ frames := 2, cells := 0, slots := 0, locals := 43 }) (zM [.ref (b 0), .int v, .int w9i, .int z] (fun H => Wd D S0 (MW cs b w (th) sg Z) H) D cs) (va_Qi (fun r (v : MU × va_W) => ((1 : Nat) = 0 → r = nI 0) ∧ MF cs v.1 sg (v.2 ++ Z)) (fun v t => Wd D S0 (MW cs b v.1 (nI 1) sg (v.2 ++ Z)) t.heap) (SA S0)) 0 0 (SA S0) := by
  refine Met.ofW (cc := cX3_instruction) (maxL := 4) (ret := (some .int)) (by decide) rfl ?_
  intro p e s m args below meth c s₁ B hml hv
  obtain ⟨rfl, hW, hK, hA9⟩ := hv
  have hx := B.exec
  have hb := B.bytes
  have hr := B.returns
  have hts := atoms_spec (ws := wsX3_instruction) B.pre
  have hown : s.vm.findClass RX3 = some m.cls := findClass_of_methodNamed B.named
  have hlocks := B.notSynchronized
  have hRc : (headSpec wsX3_instruction ({ frames := 2, cells := 0, slots := 0, locals := 43 })).room.cells = 0 := rfl
  have hRs : (headSpec wsX3_instruction ({ frames := 2, cells := 0, slots := 0, locals := 43 })).room.slots = 0 := rfl
  have fl33 := hts (.fieldLink RX3 33 "DeltaUpdaterModel" "thrown" "I") (by decide +kernel)
  have in4 : ∀ w ∈ u_ws RX3 TX3 12, w ∈ wsX3_instruction := by decide +kernel
  have hW : Wd D S0 (MW cs b w (th) sg Z) s.heap := hW
  have hS0 : S0 ≤ s.heap.size := hW.2.2
  have hS : va_S (SA S0) s.heap s.heap [] := va_S.rf
  have hl := lv_entry ([.ref (b 0), .int v, .int w9i, .int z]) (n := 4) (Nat.le_of_ble_eq_true rfl)
  rw [lg_entry_eq]
  generalize (lg_sl ([.ref (b 0), .int v, .int w9i, .int z]) ++ List.replicate (4 - (lg_sl ([.ref (b 0), .int v, .int w9i, .int z])).length) Slot.unset).toArray = ls at hl ⊢
  have hl : lv_has ls 4 [(0, .ref (b 0)), (1, .int v), (2, .int w9i), (3, .int z)] := hl
  have hok := hF.2.2.2.2.2
  have hbl := hok.1.1
  have hnv := hok.2.1.1
  have hnp := hok.2.2.1.1
  have hnh := hok.2.2.2.2.1
  refine lv_aload_n hx hb dX3_instruction_0 rfl (lv_at hl 0 rfl) ?_
  refine lv_iconst (v := nI 0) hx hb dX3_instruction_1 (by decide) ?_
  refine z_put (ty := .int) (ci := 4) (v := .int (nI 0)) (C := RX3) (T := TX3) (N := 12) hx hb hts in4 tyX3 tyX3_ok nmX3 hown hK hW hS 0 rfl rfl 0 (by decide) fl33 (fun _ h9 => h9) rfl (by decide +kernel) rfl rfl (Nat.le_of_ble_eq_true rfl) dX3_instruction_2 (fun H locs hW hS => ?_)
  have hW : Wd D S0 (((b 0), .inr (4, [.int (nI 0), .int (nI sg.1.length), .ref (b 1), .int (nI sg.2.1.length), .ref (b 2), .int (nI sg.2.2.1.length), .ref (b 3), .ref (b 4), .ref (b 5), .ref (mI w), .int (nI sg.2.2.2.2.length), .ref (b 6)])) :: ((b 1), fa cs 400 (mf w)) :: ((b 2), qa cs 2 12 (mg w 0)) :: ((b 3), qa cs 2 12 (mg w 1)) :: ((b 4), qa cs 2 12 (mg w 2)) :: ((b 5), qa cs 2 12 (mg w 3)) :: ((b 6), qa cs 2 20 (mg w 4)) :: Z) H := hW
  refine lv_aload_n hx hb dX3_instruction_5 rfl (lv_at hl 0 rfl) ?_
  refine lv_iload_n hx hb dX3_instruction_6 rfl (lv_at hl 1 rfl) ?_
  refine z_csV (As := [.int v]) (rest := []) ⟨hx, hb, hml, hown, hts⟩ (c_X3_isPatch l D cs (b 0) [.int (nI 0), .int (nI sg.1.length), .ref (b 1), .int (nI sg.2.1.length), .ref (b 2), .int (nI sg.2.2.1.length), .ref (b 3), .ref (b 4), .ref (b 5), .ref (mI w), .int (nI sg.2.2.2.2.length), .ref (b 6)] v sg.2.2.1.length rfl) (cwV 1 hts gX3_instruction_X3_isPatch rfl rfl rfl (by decide +kernel) ⟨Nat.le_of_ble_eq_true rfl, Nat.le_of_ble_eq_true rfl⟩) (hW.1 0 _ rfl) rfl (hW.1 0 _ rfl) hK rfl hl.1 rfl (Nat.le_of_ble_eq_true rfl) dX3_instruction_7 ⟨(by rw [hRc]; omega), (by rw [hRs]; omega)⟩ (fun r hq9 => ?_)
  have hq9 : r = bI (vI v sg.2.2.1.length) := hq9
  subst hq9
  refine z_ifb_eq (tgt := 47) hx hb dX3_instruction_10 (by decide) (fun _ => ?_) (fun h9 => absurd (h9.symm.trans hv) (by decide))
  refine lv_aload_n hx hb dX3_instruction_47 rfl (lv_at hl 0 rfl) ?_
  refine lv_iconst (v := nI 1) hx hb dX3_instruction_48 (by decide) ?_
  refine z_cmI (va_runV (As := [.int (nI 1)]) (rest := []) ⟨hx, hb, hml, hown, hts⟩ (c_X3_fail l D cs S0 Z b w (nI 0) (nI 1) sg) (cwV 1 hts gX3_instruction_X3_fail rfl rfl rfl (by decide +kernel) ⟨Nat.le_of_ble_eq_true rfl, Nat.le_of_ble_eq_true rfl⟩) ⟨zP_blind, z_recv hK (hW.1 0 _ rfl) rfl, (zP_pre hW hK)⟩ rfl rfl hl.1 rfl (lv_room (Nat.le_of_ble_eq_true rfl)) dX3_instruction_49 ⟨(by rw [hRc]; omega), (by rw [hRs]; omega)⟩) hS (fun r u8 H locs hu hW hS => ?_)
  rw [hu]
  have hW : Wd D S0 (((b 0), .inr (4, [.int (nI 1), .int (nI sg.1.length), .ref (b 1), .int (nI sg.2.1.length), .ref (b 2), .int (nI sg.2.2.1.length), .ref (b 3), .ref (b 4), .ref (b 5), .ref (mI w), .int (nI sg.2.2.2.2.length), .ref (b 6)])) :: ((b 1), fa cs 400 (mf w)) :: ((b 2), qa cs 2 12 (mg w 0)) :: ((b 3), qa cs 2 12 (mg w 1)) :: ((b 4), qa cs 2 12 (mg w 2)) :: ((b 5), qa cs 2 12 (mg w 3)) :: ((b 6), qa cs 2 20 (mg w 4)) :: Z) H := hW
  refine W.widen (k := 0) (n := 0) (by omega) (by omega) ?_
  exact W.iret (v := nI 0) hx hb hr (fun t ht hW9 => ⟨⟨_, (w, []), rfl, ⟨fun h9 => absurd h9 (by decide), hF⟩, (by show Wd D S0 _ _; rw [ht]; exact hW)⟩, hS.F ht⟩) (fun q9 h9 => hS.2.2 q9 h9) dX3_instruction_52

set_option maxHeartbeats 4000000 in
set_option maxRecDepth 100000 in
theorem c_X3_instruction_b (l : Launch) (D : va_G) (cs : Nat → ClassId) (S0 : Nat) (Z : va_W) (b : Nat → Nat) (w : MU) (sg : St) (hF : MF cs w sg Z) (th : Int32) (j9 : Nat) (hj : j9 < sg.2.2.1.length) (z y9i : Int32) (hz : inB z (nI 0) (nI (manyN (rf (psN sg.2.2.1 j9).2.2) (psN sg.2.2.1 j9).2.1.length) - nI 1) = false)  : Met l yX3_instruction wsX3_instruction ({ frames := 2, cells := 0, slots := 0, locals := 47 }) (zM [.ref (b 0), .int (nI j9), .int z, .int y9i] (fun H => Wd D S0 (MW cs b w (th) sg Z) H) D cs) (va_Qi (fun r (v : MU × va_W) => ((1 : Nat) = 0 → r = nI 0) ∧ MF cs v.1 sg (v.2 ++ Z)) (fun v t => Wd D S0 (MW cs b v.1 (nI 1) sg (v.2 ++ Z)) t.heap) (SA S0)) 0 0 (SA S0) := by
  refine Met.ofW (cc := cX3_instruction) (maxL := 4) (ret := (some .int)) (by decide) rfl ?_
  intro p e s m args below meth c s₁ B hml hv
  obtain ⟨rfl, hW, hK, hA9⟩ := hv
  have hx := B.exec
  have hb := B.bytes
  have hr := B.returns
  have hts := atoms_spec (ws := wsX3_instruction) B.pre
  have hown : s.vm.findClass RX3 = some m.cls := findClass_of_methodNamed B.named
  have hlocks := B.notSynchronized
  have hRc : (headSpec wsX3_instruction ({ frames := 2, cells := 0, slots := 0, locals := 47 })).room.cells = 0 := rfl
  have hRs : (headSpec wsX3_instruction ({ frames := 2, cells := 0, slots := 0, locals := 47 })).room.slots = 0 := rfl
  have fl33 := hts (.fieldLink RX3 33 "DeltaUpdaterModel" "thrown" "I") (by decide +kernel)
  have in4 : ∀ w ∈ u_ws RX3 TX3 12, w ∈ wsX3_instruction := by decide +kernel
  have hW : Wd D S0 (MW cs b w (th) sg Z) s.heap := hW
  have hS0 : S0 ≤ s.heap.size := hW.2.2
  have hS : va_S (SA S0) s.heap s.heap [] := va_S.rf
  have hl := lv_entry ([.ref (b 0), .int (nI j9), .int z, .int y9i]) (n := 4) (Nat.le_of_ble_eq_true rfl)
  rw [lg_entry_eq]
  generalize (lg_sl ([.ref (b 0), .int (nI j9), .int z, .int y9i]) ++ List.replicate (4 - (lg_sl ([.ref (b 0), .int (nI j9), .int z, .int y9i])).length) Slot.unset).toArray = ls at hl ⊢
  have hl : lv_has ls 4 [(0, .ref (b 0)), (1, .int (nI j9)), (2, .int z), (3, .int y9i)] := hl
  have hok := hF.2.2.2.2.2
  have hbl := hok.1.1
  have hnv := hok.2.1.1
  have hnp := hok.2.2.1.1
  have hnh := hok.2.2.2.2.1
  have hji := vI_in hj (show sg.2.2.1.length < 2 ^ 30 by omega)
  have hlp := (hok.2.2.1.2 j9 hj).2.1.1
  refine lv_aload_n hx hb dX3_instruction_0 rfl (lv_at hl 0 rfl) ?_
  refine lv_iconst (v := nI 0) hx hb dX3_instruction_1 (by decide) ?_
  refine z_put (ty := .int) (ci := 4) (v := .int (nI 0)) (C := RX3) (T := TX3) (N := 12) hx hb hts in4 tyX3 tyX3_ok nmX3 hown hK hW hS 0 rfl rfl 0 (by decide) fl33 (fun _ h9 => h9) rfl (by decide +kernel) rfl rfl (Nat.le_of_ble_eq_true rfl) dX3_instruction_2 (fun H locs hW hS => ?_)
  have hW : Wd D S0 (((b 0), .inr (4, [.int (nI 0), .int (nI sg.1.length), .ref (b 1), .int (nI sg.2.1.length), .ref (b 2), .int (nI sg.2.2.1.length), .ref (b 3), .ref (b 4), .ref (b 5), .ref (mI w), .int (nI sg.2.2.2.2.length), .ref (b 6)])) :: ((b 1), fa cs 400 (mf w)) :: ((b 2), qa cs 2 12 (mg w 0)) :: ((b 3), qa cs 2 12 (mg w 1)) :: ((b 4), qa cs 2 12 (mg w 2)) :: ((b 5), qa cs 2 12 (mg w 3)) :: ((b 6), qa cs 2 20 (mg w 4)) :: Z) H := hW
  refine lv_aload_n hx hb dX3_instruction_5 rfl (lv_at hl 0 rfl) ?_
  refine lv_iload_n hx hb dX3_instruction_6 rfl (lv_at hl 1 rfl) ?_
  refine z_csV (As := [.int (nI j9)]) (rest := []) ⟨hx, hb, hml, hown, hts⟩ (c_X3_isPatch l D cs (b 0) [.int (nI 0), .int (nI sg.1.length), .ref (b 1), .int (nI sg.2.1.length), .ref (b 2), .int (nI sg.2.2.1.length), .ref (b 3), .ref (b 4), .ref (b 5), .ref (mI w), .int (nI sg.2.2.2.2.length), .ref (b 6)] (nI j9) sg.2.2.1.length rfl) (cwV 1 hts gX3_instruction_X3_isPatch rfl rfl rfl (by decide +kernel) ⟨Nat.le_of_ble_eq_true rfl, Nat.le_of_ble_eq_true rfl⟩) (hW.1 0 _ rfl) rfl (hW.1 0 _ rfl) hK rfl hl.1 rfl (Nat.le_of_ble_eq_true rfl) dX3_instruction_7 ⟨(by rw [hRc]; omega), (by rw [hRs]; omega)⟩ (fun r hq9 => ?_)
  have hq9 : r = bI (vI (nI j9) sg.2.2.1.length) := hq9
  subst hq9
  refine z_ifb_eq (tgt := 47) hx hb dX3_instruction_10 (by decide) (fun h9 => absurd (h9.symm.trans hji) (by decide)) (fun _ => ?_)
  refine lv_iload_n hx hb dX3_instruction_13 rfl (lv_at hl 2 rfl) ?_
  refine lv_iconst (v := nI 0) hx hb dX3_instruction_14 (by decide) ?_
  refine lv_aload_n hx hb dX3_instruction_15 rfl (lv_at hl 0 rfl) ?_
  refine lv_iload_n hx hb dX3_instruction_16 rfl (lv_at hl 1 rfl) ?_
  refine z_csV (As := [.int (nI j9)]) (rest := [.int (nI 0), .int z]) ⟨hx, hb, hml, hown, hts⟩ (c_X3_many l D cs (b 0) (b 5) sg.2.2.1.length [.int (nI 0), .int (nI sg.1.length), .ref (b 1), .int (nI sg.2.1.length), .ref (b 2), .int (nI sg.2.2.1.length), .ref (b 3), .ref (b 4), .ref (b 5), .ref (mI w), .int (nI sg.2.2.2.2.length), .ref (b 6)] (mg w 3) rfl j9 hj hnp (mA w 3 j9) (psN sg.2.2.1 j9).2.1.length (hF.2.2.1 j9 hj).2.2.1 (rf (psN sg.2.2.1 j9).2.2) (by omega)) (cwV 1 hts gX3_instruction_X3_many rfl rfl rfl (by decide +kernel) ⟨Nat.le_of_ble_eq_true rfl, Nat.le_of_ble_eq_true rfl⟩) (hW.1 0 _ rfl) rfl ⟨(hW.1 0 _ rfl), (hW.1 5 _ rfl), (hW.mem (List.mem_cons_of_mem _ (List.mem_cons_of_mem _ (List.mem_cons_of_mem _ (List.mem_cons_of_mem _ (List.mem_cons_of_mem _ (List.mem_cons_of_mem _ (List.mem_cons_of_mem _ (hF.2.2.1 j9 hj).2.2.2))))))))⟩ hK rfl hl.1 rfl (Nat.le_of_ble_eq_true rfl) dX3_instruction_17 ⟨(by rw [hRc]; omega), (by rw [hRs]; omega)⟩ (fun r hq9 => ?_)
  have hq9 : r = nI (manyN (rf (psN sg.2.2.1 j9).2.2) (psN sg.2.2.1 j9).2.1.length) := hq9
  subst hq9
  refine lv_iconst (v := nI 1) hx hb dX3_instruction_20 (by decide) ?_
  refine lv_isub hx hb dX3_instruction_21 ?_
  refine z_csS (As := [.int z, .int (nI 0), .int ((nI (manyN (rf (psN sg.2.2.1 j9).2.2) (psN sg.2.2.1 j9).2.1.length)) - (nI 1))]) (rest := []) ⟨hx, hb, hml, hown, hts⟩ (c_X3_isIn l D cs z (nI 0) ((nI (manyN (rf (psN sg.2.2.1 j9).2.2) (psN sg.2.2.1 j9).2.1.length)) - (nI 1))) (va_cwS 3 hts gX3_instruction_X3_isIn rfl rfl rfl (by decide +kernel) ⟨Nat.le_of_ble_eq_true rfl, Nat.le_of_ble_eq_true rfl⟩) trivial hK rfl hl.1 rfl (Nat.le_of_ble_eq_true rfl) dX3_instruction_22 ⟨(by rw [hRc]; omega), (by rw [hRs]; omega)⟩ (fun r hq9 => ?_)
  have hq9 : r = bI (inB z (nI 0) ((nI (manyN (rf (psN sg.2.2.1 j9).2.2) (psN sg.2.2.1 j9).2.1.length)) - (nI 1))) := hq9
  subst hq9
  refine z_ifb_eq (tgt := 47) hx hb dX3_instruction_25 (by decide) (fun _ => ?_) (fun h9 => absurd (h9.symm.trans hz) (by decide))
  refine lv_aload_n hx hb dX3_instruction_47 rfl (lv_at hl 0 rfl) ?_
  refine lv_iconst (v := nI 1) hx hb dX3_instruction_48 (by decide) ?_
  refine z_cmI (va_runV (As := [.int (nI 1)]) (rest := []) ⟨hx, hb, hml, hown, hts⟩ (c_X3_fail l D cs S0 Z b w (nI 0) (nI 1) sg) (cwV 1 hts gX3_instruction_X3_fail rfl rfl rfl (by decide +kernel) ⟨Nat.le_of_ble_eq_true rfl, Nat.le_of_ble_eq_true rfl⟩) ⟨zP_blind, z_recv hK (hW.1 0 _ rfl) rfl, (zP_pre hW hK)⟩ rfl rfl hl.1 rfl (lv_room (Nat.le_of_ble_eq_true rfl)) dX3_instruction_49 ⟨(by rw [hRc]; omega), (by rw [hRs]; omega)⟩) hS (fun r u8 H locs hu hW hS => ?_)
  rw [hu]
  have hW : Wd D S0 (((b 0), .inr (4, [.int (nI 1), .int (nI sg.1.length), .ref (b 1), .int (nI sg.2.1.length), .ref (b 2), .int (nI sg.2.2.1.length), .ref (b 3), .ref (b 4), .ref (b 5), .ref (mI w), .int (nI sg.2.2.2.2.length), .ref (b 6)])) :: ((b 1), fa cs 400 (mf w)) :: ((b 2), qa cs 2 12 (mg w 0)) :: ((b 3), qa cs 2 12 (mg w 1)) :: ((b 4), qa cs 2 12 (mg w 2)) :: ((b 5), qa cs 2 12 (mg w 3)) :: ((b 6), qa cs 2 20 (mg w 4)) :: Z) H := hW
  refine W.widen (k := 0) (n := 0) (by omega) (by omega) ?_
  exact W.iret (v := nI 0) hx hb hr (fun t ht hW9 => ⟨⟨_, (w, []), rfl, ⟨fun h9 => absurd h9 (by decide), hF⟩, (by show Wd D S0 _ _; rw [ht]; exact hW)⟩, hS.F ht⟩) (fun q9 h9 => hS.2.2 q9 h9) dX3_instruction_52

set_option maxHeartbeats 4000000 in
set_option maxRecDepth 100000 in
theorem c_X3_instruction_c (l : Launch) (D : va_G) (cs : Nat → ClassId) (S0 : Nat) (Z : va_W) (b : Nat → Nat) (w : MU) (sg : St) (hF : MF cs w sg Z) (th : Int32) (j9 : Nat) (hj : j9 < sg.2.2.1.length) (i9 : Nat) (hi : i9 < manyN (rf (psN sg.2.2.1 j9).2.2) (psN sg.2.2.1 j9).2.1.length) (z : Int32) (hz : inB z (nI 0) (nI 3) = false)  : Met l yX3_instruction wsX3_instruction ({ frames := 2, cells := 0, slots := 0, locals := 47 }) (zM [.ref (b 0), .int (nI j9), .int (nI i9), .int z] (fun H => Wd D S0 (MW cs b w (th) sg Z) H) D cs) (va_Qi (fun r (v : MU × va_W) => ((1 : Nat) = 0 → r = nI 0) ∧ MF cs v.1 sg (v.2 ++ Z)) (fun v t => Wd D S0 (MW cs b v.1 (nI 1) sg (v.2 ++ Z)) t.heap) (SA S0)) 0 0 (SA S0) := by
  refine Met.ofW (cc := cX3_instruction) (maxL := 4) (ret := (some .int)) (by decide) rfl ?_
  intro p e s m args below meth c s₁ B hml hv
  obtain ⟨rfl, hW, hK, hA9⟩ := hv
  have hx := B.exec
  have hb := B.bytes
  have hr := B.returns
  have hts := atoms_spec (ws := wsX3_instruction) B.pre
  have hown : s.vm.findClass RX3 = some m.cls := findClass_of_methodNamed B.named
  have hlocks := B.notSynchronized
  have hRc : (headSpec wsX3_instruction ({ frames := 2, cells := 0, slots := 0, locals := 47 })).room.cells = 0 := rfl
  have hRs : (headSpec wsX3_instruction ({ frames := 2, cells := 0, slots := 0, locals := 47 })).room.slots = 0 := rfl
  have fl33 := hts (.fieldLink RX3 33 "DeltaUpdaterModel" "thrown" "I") (by decide +kernel)
  have in4 : ∀ w ∈ u_ws RX3 TX3 12, w ∈ wsX3_instruction := by decide +kernel
  have hW : Wd D S0 (MW cs b w (th) sg Z) s.heap := hW
  have hS0 : S0 ≤ s.heap.size := hW.2.2
  have hS : va_S (SA S0) s.heap s.heap [] := va_S.rf
  have hl := lv_entry ([.ref (b 0), .int (nI j9), .int (nI i9), .int z]) (n := 4) (Nat.le_of_ble_eq_true rfl)
  rw [lg_entry_eq]
  generalize (lg_sl ([.ref (b 0), .int (nI j9), .int (nI i9), .int z]) ++ List.replicate (4 - (lg_sl ([.ref (b 0), .int (nI j9), .int (nI i9), .int z])).length) Slot.unset).toArray = ls at hl ⊢
  have hl : lv_has ls 4 [(0, .ref (b 0)), (1, .int (nI j9)), (2, .int (nI i9)), (3, .int z)] := hl
  have hok := hF.2.2.2.2.2
  have hbl := hok.1.1
  have hnv := hok.2.1.1
  have hnp := hok.2.2.1.1
  have hnh := hok.2.2.2.2.1
  have hji := vI_in hj (show sg.2.2.1.length < 2 ^ 30 by omega)
  have hlp := (hok.2.2.1.2 j9 hj).2.1.1
  have hmn : manyN (rf (psN sg.2.2.1 j9).2.2) (psN sg.2.2.1 j9).2.1.length ≤ (psN sg.2.2.1 j9).2.1.length := ct_le _ _
  have hib : inB (nI i9) (nI 0) (nI (manyN (rf (psN sg.2.2.1 j9).2.2) (psN sg.2.2.1 j9).2.1.length) - nI 1) = true := (inB_vI _ _).trans (vI_in hi (by omega))
  refine lv_aload_n hx hb dX3_instruction_0 rfl (lv_at hl 0 rfl) ?_
  refine lv_iconst (v := nI 0) hx hb dX3_instruction_1 (by decide) ?_
  refine z_put (ty := .int) (ci := 4) (v := .int (nI 0)) (C := RX3) (T := TX3) (N := 12) hx hb hts in4 tyX3 tyX3_ok nmX3 hown hK hW hS 0 rfl rfl 0 (by decide) fl33 (fun _ h9 => h9) rfl (by decide +kernel) rfl rfl (Nat.le_of_ble_eq_true rfl) dX3_instruction_2 (fun H locs hW hS => ?_)
  have hW : Wd D S0 (((b 0), .inr (4, [.int (nI 0), .int (nI sg.1.length), .ref (b 1), .int (nI sg.2.1.length), .ref (b 2), .int (nI sg.2.2.1.length), .ref (b 3), .ref (b 4), .ref (b 5), .ref (mI w), .int (nI sg.2.2.2.2.length), .ref (b 6)])) :: ((b 1), fa cs 400 (mf w)) :: ((b 2), qa cs 2 12 (mg w 0)) :: ((b 3), qa cs 2 12 (mg w 1)) :: ((b 4), qa cs 2 12 (mg w 2)) :: ((b 5), qa cs 2 12 (mg w 3)) :: ((b 6), qa cs 2 20 (mg w 4)) :: Z) H := hW
  refine lv_aload_n hx hb dX3_instruction_5 rfl (lv_at hl 0 rfl) ?_
  refine lv_iload_n hx hb dX3_instruction_6 rfl (lv_at hl 1 rfl) ?_
  refine z_csV (As := [.int (nI j9)]) (rest := []) ⟨hx, hb, hml, hown, hts⟩ (c_X3_isPatch l D cs (b 0) [.int (nI 0), .int (nI sg.1.length), .ref (b 1), .int (nI sg.2.1.length), .ref (b 2), .int (nI sg.2.2.1.length), .ref (b 3), .ref (b 4), .ref (b 5), .ref (mI w), .int (nI sg.2.2.2.2.length), .ref (b 6)] (nI j9) sg.2.2.1.length rfl) (cwV 1 hts gX3_instruction_X3_isPatch rfl rfl rfl (by decide +kernel) ⟨Nat.le_of_ble_eq_true rfl, Nat.le_of_ble_eq_true rfl⟩) (hW.1 0 _ rfl) rfl (hW.1 0 _ rfl) hK rfl hl.1 rfl (Nat.le_of_ble_eq_true rfl) dX3_instruction_7 ⟨(by rw [hRc]; omega), (by rw [hRs]; omega)⟩ (fun r hq9 => ?_)
  have hq9 : r = bI (vI (nI j9) sg.2.2.1.length) := hq9
  subst hq9
  refine z_ifb_eq (tgt := 47) hx hb dX3_instruction_10 (by decide) (fun h9 => absurd (h9.symm.trans hji) (by decide)) (fun _ => ?_)
  refine lv_iload_n hx hb dX3_instruction_13 rfl (lv_at hl 2 rfl) ?_
  refine lv_iconst (v := nI 0) hx hb dX3_instruction_14 (by decide) ?_
  refine lv_aload_n hx hb dX3_instruction_15 rfl (lv_at hl 0 rfl) ?_
  refine lv_iload_n hx hb dX3_instruction_16 rfl (lv_at hl 1 rfl) ?_
  refine z_csV (As := [.int (nI j9)]) (rest := [.int (nI 0), .int (nI i9)]) ⟨hx, hb, hml, hown, hts⟩ (c_X3_many l D cs (b 0) (b 5) sg.2.2.1.length [.int (nI 0), .int (nI sg.1.length), .ref (b 1), .int (nI sg.2.1.length), .ref (b 2), .int (nI sg.2.2.1.length), .ref (b 3), .ref (b 4), .ref (b 5), .ref (mI w), .int (nI sg.2.2.2.2.length), .ref (b 6)] (mg w 3) rfl j9 hj hnp (mA w 3 j9) (psN sg.2.2.1 j9).2.1.length (hF.2.2.1 j9 hj).2.2.1 (rf (psN sg.2.2.1 j9).2.2) (by omega)) (cwV 1 hts gX3_instruction_X3_many rfl rfl rfl (by decide +kernel) ⟨Nat.le_of_ble_eq_true rfl, Nat.le_of_ble_eq_true rfl⟩) (hW.1 0 _ rfl) rfl ⟨(hW.1 0 _ rfl), (hW.1 5 _ rfl), (hW.mem (List.mem_cons_of_mem _ (List.mem_cons_of_mem _ (List.mem_cons_of_mem _ (List.mem_cons_of_mem _ (List.mem_cons_of_mem _ (List.mem_cons_of_mem _ (List.mem_cons_of_mem _ (hF.2.2.1 j9 hj).2.2.2))))))))⟩ hK rfl hl.1 rfl (Nat.le_of_ble_eq_true rfl) dX3_instruction_17 ⟨(by rw [hRc]; omega), (by rw [hRs]; omega)⟩ (fun r hq9 => ?_)
  have hq9 : r = nI (manyN (rf (psN sg.2.2.1 j9).2.2) (psN sg.2.2.1 j9).2.1.length) := hq9
  subst hq9
  refine lv_iconst (v := nI 1) hx hb dX3_instruction_20 (by decide) ?_
  refine lv_isub hx hb dX3_instruction_21 ?_
  refine z_csS (As := [.int (nI i9), .int (nI 0), .int ((nI (manyN (rf (psN sg.2.2.1 j9).2.2) (psN sg.2.2.1 j9).2.1.length)) - (nI 1))]) (rest := []) ⟨hx, hb, hml, hown, hts⟩ (c_X3_isIn l D cs (nI i9) (nI 0) ((nI (manyN (rf (psN sg.2.2.1 j9).2.2) (psN sg.2.2.1 j9).2.1.length)) - (nI 1))) (va_cwS 3 hts gX3_instruction_X3_isIn rfl rfl rfl (by decide +kernel) ⟨Nat.le_of_ble_eq_true rfl, Nat.le_of_ble_eq_true rfl⟩) trivial hK rfl hl.1 rfl (Nat.le_of_ble_eq_true rfl) dX3_instruction_22 ⟨(by rw [hRc]; omega), (by rw [hRs]; omega)⟩ (fun r hq9 => ?_)
  have hq9 : r = bI (inB (nI i9) (nI 0) ((nI (manyN (rf (psN sg.2.2.1 j9).2.2) (psN sg.2.2.1 j9).2.1.length)) - (nI 1))) := hq9
  subst hq9
  refine z_ifb_eq (tgt := 47) hx hb dX3_instruction_25 (by decide) (fun h9 => absurd (h9.symm.trans hib) (by decide)) (fun _ => ?_)
  refine lv_iload_n hx hb dX3_instruction_28 rfl (lv_at hl 3 rfl) ?_
  refine lv_iconst (v := nI 0) hx hb dX3_instruction_29 (by decide) ?_
  refine lv_iconst (v := nI 3) hx hb dX3_instruction_30 (by decide) ?_
  refine z_csS (As := [.int z, .int (nI 0), .int (nI 3)]) (rest := []) ⟨hx, hb, hml, hown, hts⟩ (c_X3_isIn l D cs z (nI 0) (nI 3)) (va_cwS 3 hts gX3_instruction_X3_isIn rfl rfl rfl (by decide +kernel) ⟨Nat.le_of_ble_eq_true rfl, Nat.le_of_ble_eq_true rfl⟩) trivial hK rfl hl.1 rfl (Nat.le_of_ble_eq_true rfl) dX3_instruction_31 ⟨(by rw [hRc]; omega), (by rw [hRs]; omega)⟩ (fun r hq9 => ?_)
  have hq9 : r = bI (inB z (nI 0) (nI 3)) := hq9
  subst hq9
  refine z_ifb_eq (tgt := 47) hx hb dX3_instruction_34 (by decide) (fun _ => ?_) (fun h9 => absurd (h9.symm.trans hz) (by decide))
  refine lv_aload_n hx hb dX3_instruction_47 rfl (lv_at hl 0 rfl) ?_
  refine lv_iconst (v := nI 1) hx hb dX3_instruction_48 (by decide) ?_
  refine z_cmI (va_runV (As := [.int (nI 1)]) (rest := []) ⟨hx, hb, hml, hown, hts⟩ (c_X3_fail l D cs S0 Z b w (nI 0) (nI 1) sg) (cwV 1 hts gX3_instruction_X3_fail rfl rfl rfl (by decide +kernel) ⟨Nat.le_of_ble_eq_true rfl, Nat.le_of_ble_eq_true rfl⟩) ⟨zP_blind, z_recv hK (hW.1 0 _ rfl) rfl, (zP_pre hW hK)⟩ rfl rfl hl.1 rfl (lv_room (Nat.le_of_ble_eq_true rfl)) dX3_instruction_49 ⟨(by rw [hRc]; omega), (by rw [hRs]; omega)⟩) hS (fun r u8 H locs hu hW hS => ?_)
  rw [hu]
  have hW : Wd D S0 (((b 0), .inr (4, [.int (nI 1), .int (nI sg.1.length), .ref (b 1), .int (nI sg.2.1.length), .ref (b 2), .int (nI sg.2.2.1.length), .ref (b 3), .ref (b 4), .ref (b 5), .ref (mI w), .int (nI sg.2.2.2.2.length), .ref (b 6)])) :: ((b 1), fa cs 400 (mf w)) :: ((b 2), qa cs 2 12 (mg w 0)) :: ((b 3), qa cs 2 12 (mg w 1)) :: ((b 4), qa cs 2 12 (mg w 2)) :: ((b 5), qa cs 2 12 (mg w 3)) :: ((b 6), qa cs 2 20 (mg w 4)) :: Z) H := hW
  refine W.widen (k := 0) (n := 0) (by omega) (by omega) ?_
  exact W.iret (v := nI 0) hx hb hr (fun t ht hW9 => ⟨⟨_, (w, []), rfl, ⟨fun h9 => absurd h9 (by decide), hF⟩, (by show Wd D S0 _ _; rw [ht]; exact hW)⟩, hS.F ht⟩) (fun q9 h9 => hS.2.2 q9 h9) dX3_instruction_52

set_option maxHeartbeats 4000000 in
set_option maxRecDepth 100000 in
theorem c_X3_instruction (l : Launch) (D : va_G) (cs : Nat → ClassId) (S0 : Nat) (Z : va_W) (b : Nat → Nat) (w : MU) (sg : St) (hF : MF cs w sg Z) (th : Int32) (j9 : Nat) (hj : j9 < sg.2.2.1.length) (i9 : Nat) (hi : i9 < manyN (rf (psN sg.2.2.1 j9).2.2) (psN sg.2.2.1 j9).2.1.length) (w9 : Nat) (hw : w9 < 4)  : Met l yX3_instruction wsX3_instruction ({ frames := 2, cells := 0, slots := 0, locals := 51 }) (zM [.ref (b 0), .int (nI j9), .int (nI i9), .int (nI w9)] (fun H => Wd D S0 (MW cs b w (th) sg Z) H) D cs) (va_Qi (fun r (v : MU × va_W) => ((0 : Nat) = 0 → r = tellI (rf (psN sg.2.2.1 j9).2.2) (bv (psN sg.2.2.1 j9).2.1) (psN sg.2.2.1 j9).2.1.length i9 w9) ∧ MF cs v.1 sg (v.2 ++ Z)) (fun v t => Wd D S0 (MW cs b v.1 (nI 0) sg (v.2 ++ Z)) t.heap) (SA S0)) 0 0 (SA S0) := by
  refine Met.ofW (cc := cX3_instruction) (maxL := 4) (ret := (some .int)) (by decide) rfl ?_
  intro p e s m args below meth c s₁ B hml hv
  obtain ⟨rfl, hW, hK, hA9⟩ := hv
  have hx := B.exec
  have hb := B.bytes
  have hr := B.returns
  have hts := atoms_spec (ws := wsX3_instruction) B.pre
  have hown : s.vm.findClass RX3 = some m.cls := findClass_of_methodNamed B.named
  have hlocks := B.notSynchronized
  have hRc : (headSpec wsX3_instruction ({ frames := 2, cells := 0, slots := 0, locals := 51 })).room.cells = 0 := rfl
  have hRs : (headSpec wsX3_instruction ({ frames := 2, cells := 0, slots := 0, locals := 51 })).room.slots = 0 := rfl
  have fl33 := hts (.fieldLink RX3 33 "DeltaUpdaterModel" "thrown" "I") (by decide +kernel)
  have in4 : ∀ w ∈ u_ws RX3 TX3 12, w ∈ wsX3_instruction := by decide +kernel
  have hW : Wd D S0 (MW cs b w (th) sg Z) s.heap := hW
  have hS0 : S0 ≤ s.heap.size := hW.2.2
  have hS : va_S (SA S0) s.heap s.heap [] := va_S.rf
  have hl := lv_entry ([.ref (b 0), .int (nI j9), .int (nI i9), .int (nI w9)]) (n := 4) (Nat.le_of_ble_eq_true rfl)
  rw [lg_entry_eq]
  generalize (lg_sl ([.ref (b 0), .int (nI j9), .int (nI i9), .int (nI w9)]) ++ List.replicate (4 - (lg_sl ([.ref (b 0), .int (nI j9), .int (nI i9), .int (nI w9)])).length) Slot.unset).toArray = ls at hl ⊢
  have hl : lv_has ls 4 [(0, .ref (b 0)), (1, .int (nI j9)), (2, .int (nI i9)), (3, .int (nI w9))] := hl
  have hok := hF.2.2.2.2.2
  have hbl := hok.1.1
  have hnv := hok.2.1.1
  have hnp := hok.2.2.1.1
  have hnh := hok.2.2.2.2.1
  have hji := vI_in hj (show sg.2.2.1.length < 2 ^ 30 by omega)
  have hlp := (hok.2.2.1.2 j9 hj).2.1.1
  have hmn : manyN (rf (psN sg.2.2.1 j9).2.2) (psN sg.2.2.1 j9).2.1.length ≤ (psN sg.2.2.1 j9).2.1.length := ct_le _ _
  have hib : inB (nI i9) (nI 0) (nI (manyN (rf (psN sg.2.2.1 j9).2.2) (psN sg.2.2.1 j9).2.1.length) - nI 1) = true := (inB_vI _ _).trans (vI_in hi (by omega))
  have hwb : inB (nI w9) (nI 0) (nI 3) = true := inB_in (Nat.zero_le _) (by omega) (by decide)
  refine lv_aload_n hx hb dX3_instruction_0 rfl (lv_at hl 0 rfl) ?_
  refine lv_iconst (v := nI 0) hx hb dX3_instruction_1 (by decide) ?_
  refine z_put (ty := .int) (ci := 4) (v := .int (nI 0)) (C := RX3) (T := TX3) (N := 12) hx hb hts in4 tyX3 tyX3_ok nmX3 hown hK hW hS 0 rfl rfl 0 (by decide) fl33 (fun _ h9 => h9) rfl (by decide +kernel) rfl rfl (Nat.le_of_ble_eq_true rfl) dX3_instruction_2 (fun H locs hW hS => ?_)
  have hW : Wd D S0 (((b 0), .inr (4, [.int (nI 0), .int (nI sg.1.length), .ref (b 1), .int (nI sg.2.1.length), .ref (b 2), .int (nI sg.2.2.1.length), .ref (b 3), .ref (b 4), .ref (b 5), .ref (mI w), .int (nI sg.2.2.2.2.length), .ref (b 6)])) :: ((b 1), fa cs 400 (mf w)) :: ((b 2), qa cs 2 12 (mg w 0)) :: ((b 3), qa cs 2 12 (mg w 1)) :: ((b 4), qa cs 2 12 (mg w 2)) :: ((b 5), qa cs 2 12 (mg w 3)) :: ((b 6), qa cs 2 20 (mg w 4)) :: Z) H := hW
  refine lv_aload_n hx hb dX3_instruction_5 rfl (lv_at hl 0 rfl) ?_
  refine lv_iload_n hx hb dX3_instruction_6 rfl (lv_at hl 1 rfl) ?_
  refine z_csV (As := [.int (nI j9)]) (rest := []) ⟨hx, hb, hml, hown, hts⟩ (c_X3_isPatch l D cs (b 0) [.int (nI 0), .int (nI sg.1.length), .ref (b 1), .int (nI sg.2.1.length), .ref (b 2), .int (nI sg.2.2.1.length), .ref (b 3), .ref (b 4), .ref (b 5), .ref (mI w), .int (nI sg.2.2.2.2.length), .ref (b 6)] (nI j9) sg.2.2.1.length rfl) (cwV 1 hts gX3_instruction_X3_isPatch rfl rfl rfl (by decide +kernel) ⟨Nat.le_of_ble_eq_true rfl, Nat.le_of_ble_eq_true rfl⟩) (hW.1 0 _ rfl) rfl (hW.1 0 _ rfl) hK rfl hl.1 rfl (Nat.le_of_ble_eq_true rfl) dX3_instruction_7 ⟨(by rw [hRc]; omega), (by rw [hRs]; omega)⟩ (fun r hq9 => ?_)
  have hq9 : r = bI (vI (nI j9) sg.2.2.1.length) := hq9
  subst hq9
  refine z_ifb_eq (tgt := 47) hx hb dX3_instruction_10 (by decide) (fun h9 => absurd (h9.symm.trans hji) (by decide)) (fun _ => ?_)
  refine lv_iload_n hx hb dX3_instruction_13 rfl (lv_at hl 2 rfl) ?_
  refine lv_iconst (v := nI 0) hx hb dX3_instruction_14 (by decide) ?_
  refine lv_aload_n hx hb dX3_instruction_15 rfl (lv_at hl 0 rfl) ?_
  refine lv_iload_n hx hb dX3_instruction_16 rfl (lv_at hl 1 rfl) ?_
  refine z_csV (As := [.int (nI j9)]) (rest := [.int (nI 0), .int (nI i9)]) ⟨hx, hb, hml, hown, hts⟩ (c_X3_many l D cs (b 0) (b 5) sg.2.2.1.length [.int (nI 0), .int (nI sg.1.length), .ref (b 1), .int (nI sg.2.1.length), .ref (b 2), .int (nI sg.2.2.1.length), .ref (b 3), .ref (b 4), .ref (b 5), .ref (mI w), .int (nI sg.2.2.2.2.length), .ref (b 6)] (mg w 3) rfl j9 hj hnp (mA w 3 j9) (psN sg.2.2.1 j9).2.1.length (hF.2.2.1 j9 hj).2.2.1 (rf (psN sg.2.2.1 j9).2.2) (by omega)) (cwV 1 hts gX3_instruction_X3_many rfl rfl rfl (by decide +kernel) ⟨Nat.le_of_ble_eq_true rfl, Nat.le_of_ble_eq_true rfl⟩) (hW.1 0 _ rfl) rfl ⟨(hW.1 0 _ rfl), (hW.1 5 _ rfl), (hW.mem (List.mem_cons_of_mem _ (List.mem_cons_of_mem _ (List.mem_cons_of_mem _ (List.mem_cons_of_mem _ (List.mem_cons_of_mem _ (List.mem_cons_of_mem _ (List.mem_cons_of_mem _ (hF.2.2.1 j9 hj).2.2.2))))))))⟩ hK rfl hl.1 rfl (Nat.le_of_ble_eq_true rfl) dX3_instruction_17 ⟨(by rw [hRc]; omega), (by rw [hRs]; omega)⟩ (fun r hq9 => ?_)
  have hq9 : r = nI (manyN (rf (psN sg.2.2.1 j9).2.2) (psN sg.2.2.1 j9).2.1.length) := hq9
  subst hq9
  refine lv_iconst (v := nI 1) hx hb dX3_instruction_20 (by decide) ?_
  refine lv_isub hx hb dX3_instruction_21 ?_
  refine z_csS (As := [.int (nI i9), .int (nI 0), .int ((nI (manyN (rf (psN sg.2.2.1 j9).2.2) (psN sg.2.2.1 j9).2.1.length)) - (nI 1))]) (rest := []) ⟨hx, hb, hml, hown, hts⟩ (c_X3_isIn l D cs (nI i9) (nI 0) ((nI (manyN (rf (psN sg.2.2.1 j9).2.2) (psN sg.2.2.1 j9).2.1.length)) - (nI 1))) (va_cwS 3 hts gX3_instruction_X3_isIn rfl rfl rfl (by decide +kernel) ⟨Nat.le_of_ble_eq_true rfl, Nat.le_of_ble_eq_true rfl⟩) trivial hK rfl hl.1 rfl (Nat.le_of_ble_eq_true rfl) dX3_instruction_22 ⟨(by rw [hRc]; omega), (by rw [hRs]; omega)⟩ (fun r hq9 => ?_)
  have hq9 : r = bI (inB (nI i9) (nI 0) ((nI (manyN (rf (psN sg.2.2.1 j9).2.2) (psN sg.2.2.1 j9).2.1.length)) - (nI 1))) := hq9
  subst hq9
  refine z_ifb_eq (tgt := 47) hx hb dX3_instruction_25 (by decide) (fun h9 => absurd (h9.symm.trans hib) (by decide)) (fun _ => ?_)
  refine lv_iload_n hx hb dX3_instruction_28 rfl (lv_at hl 3 rfl) ?_
  refine lv_iconst (v := nI 0) hx hb dX3_instruction_29 (by decide) ?_
  refine lv_iconst (v := nI 3) hx hb dX3_instruction_30 (by decide) ?_
  refine z_csS (As := [.int (nI w9), .int (nI 0), .int (nI 3)]) (rest := []) ⟨hx, hb, hml, hown, hts⟩ (c_X3_isIn l D cs (nI w9) (nI 0) (nI 3)) (va_cwS 3 hts gX3_instruction_X3_isIn rfl rfl rfl (by decide +kernel) ⟨Nat.le_of_ble_eq_true rfl, Nat.le_of_ble_eq_true rfl⟩) trivial hK rfl hl.1 rfl (Nat.le_of_ble_eq_true rfl) dX3_instruction_31 ⟨(by rw [hRc]; omega), (by rw [hRs]; omega)⟩ (fun r hq9 => ?_)
  have hq9 : r = bI (inB (nI w9) (nI 0) (nI 3)) := hq9
  subst hq9
  refine z_ifb_eq (tgt := 47) hx hb dX3_instruction_34 (by decide) (fun h9 => absurd (h9.symm.trans hwb) (by decide)) (fun _ => ?_)
  refine lv_aload_n hx hb dX3_instruction_37 rfl (lv_at hl 0 rfl) ?_
  refine lv_iload_n hx hb dX3_instruction_38 rfl (lv_at hl 1 rfl) ?_
  refine lv_iload_n hx hb dX3_instruction_39 rfl (lv_at hl 2 rfl) ?_
  refine lv_iload_n hx hb dX3_instruction_40 rfl (lv_at hl 3 rfl) ?_
  refine z_csV (As := [.int (nI j9), .int (nI i9), .int (nI w9)]) (rest := []) ⟨hx, hb, hml, hown, hts⟩ (c_X3_told l D cs (b 0) (b 5) (b 4) sg.2.2.1.length [.int (nI 0), .int (nI sg.1.length), .ref (b 1), .int (nI sg.2.1.length), .ref (b 2), .int (nI sg.2.2.1.length), .ref (b 3), .ref (b 4), .ref (b 5), .ref (mI w), .int (nI sg.2.2.2.2.length), .ref (b 6)] (mg w 3) (mg w 2) rfl rfl j9 hj hnp (mA w 3 j9) (mA w 2 j9) (psN sg.2.2.1 j9).2.1.length (hF.2.2.1 j9 hj).2.2.1 (hF.2.2.1 j9 hj).2.1.1 (rf (psN sg.2.2.1 j9).2.2) (bv (psN sg.2.2.1 j9).2.1) (hok.2.2.1.2 j9 hj).2.1.2 i9 hi w9 hw (hok.2.2.1.2 j9 hj).2.1.1) (cwV 3 hts gX3_instruction_X3_told rfl rfl rfl (by decide +kernel) ⟨Nat.le_of_ble_eq_true rfl, Nat.le_of_ble_eq_true rfl⟩) (hW.1 0 _ rfl) rfl ⟨(hW.1 0 _ rfl), (hW.1 5 _ rfl), (hW.mem (List.mem_cons_of_mem _ (List.mem_cons_of_mem _ (List.mem_cons_of_mem _ (List.mem_cons_of_mem _ (List.mem_cons_of_mem _ (List.mem_cons_of_mem _ (List.mem_cons_of_mem _ (hF.2.2.1 j9 hj).2.2.2)))))))), (hW.1 4 _ rfl), (hW.mem (List.mem_cons_of_mem _ (List.mem_cons_of_mem _ (List.mem_cons_of_mem _ (List.mem_cons_of_mem _ (List.mem_cons_of_mem _ (List.mem_cons_of_mem _ (List.mem_cons_of_mem _ (hF.2.2.1 j9 hj).2.1.2))))))))⟩ hK rfl hl.1 rfl (Nat.le_of_ble_eq_true rfl) dX3_instruction_41 ⟨(by rw [hRc]; omega), (by rw [hRs]; omega)⟩ (fun r hq9 => ?_)
  have hq9 : r = tellI (rf (psN sg.2.2.1 j9).2.2) (bv (psN sg.2.2.1 j9).2.1) (psN sg.2.2.1 j9).2.1.length i9 w9 := hq9
  subst hq9
  refine lv_goto (tgt := 52) hx hb dX3_instruction_44 (by decide) ?_
  refine W.widen (k := 0) (n := 0) (by omega) (by omega) ?_
  exact W.iret (v := tellI (rf (psN sg.2.2.1 j9).2.2) (bv (psN sg.2.2.1 j9).2.1) (psN sg.2.2.1 j9).2.1.length i9 w9) hx hb hr (fun t ht hW9 => ⟨⟨_, (w, []), rfl, ⟨fun _ => rfl, hF⟩, (by show Wd D S0 _ _; rw [ht]; exact hW)⟩, hS.F ht⟩) (fun q9 h9 => hS.2.2 q9 h9) dX3_instruction_52

set_option maxHeartbeats 4000000 in
set_option maxRecDepth 100000 in
theorem c_X3_newness_a (l : Launch) (D : va_G) (cs : Nat → ClassId) (S0 : Nat) (Z : va_W) (b : Nat → Nat) (w : MU) (sg : St) (hF : MF cs w sg Z) (th : Int32) (v : Int32) (hv : vI v sg.2.2.1.length = false)  : Met l yX3_newness wsX3_newness ({ frames := 2, cells := 0, slots := 0, locals := 43 }) (zM [.ref (b 0), .int v] (fun H => Wd D S0 (MW cs b w (th) sg Z) H) D cs) (va_Qd (fun r (v : MU × va_W) => ((1 : Nat) = 0 → r = FP.dconst0) ∧ MF cs v.1 sg (v.2 ++ Z)) (fun v t => Wd D S0 (MW cs b v.1 (nI 1) sg (v.2 ++ Z)) t.heap) (SA S0)) 0 0 (SA S0) := by
  refine Met.ofW (cc := cX3_newness) (maxL := 2) (ret := (some .double)) (by decide) rfl ?_
  intro p e s m args below meth c s₁ B hml hv
  obtain ⟨rfl, hW, hK, hA9⟩ := hv
  have hx := B.exec
  have hb := B.bytes
  have hr := B.returns
  have hts := atoms_spec (ws := wsX3_newness) B.pre
  have hown : s.vm.findClass RX3 = some m.cls := findClass_of_methodNamed B.named
  have hlocks := B.notSynchronized
  have hRc : (headSpec wsX3_newness ({ frames := 2, cells := 0, slots := 0, locals := 43 })).room.cells = 0 := rfl
  have hRs : (headSpec wsX3_newness ({ frames := 2, cells := 0, slots := 0, locals := 43 })).room.slots = 0 := rfl
  have fl33 := hts (.fieldLink RX3 33 "DeltaUpdaterModel" "thrown" "I") (by decide +kernel)
  have in4 : ∀ w ∈ u_ws RX3 TX3 12, w ∈ wsX3_newness := by decide +kernel
  have hW : Wd D S0 (MW cs b w (th) sg Z) s.heap := hW
  have hS0 : S0 ≤ s.heap.size := hW.2.2
  have hS : va_S (SA S0) s.heap s.heap [] := va_S.rf
  have hl := lv_entry ([.ref (b 0), .int v]) (n := 2) (Nat.le_of_ble_eq_true rfl)
  rw [lg_entry_eq]
  generalize (lg_sl ([.ref (b 0), .int v]) ++ List.replicate (2 - (lg_sl ([.ref (b 0), .int v])).length) Slot.unset).toArray = ls at hl ⊢
  have hl : lv_has ls 2 [(0, .ref (b 0)), (1, .int v)] := hl
  have hok := hF.2.2.2.2.2
  have hbl := hok.1.1
  have hnv := hok.2.1.1
  have hnp := hok.2.2.1.1
  have hnh := hok.2.2.2.2.1
  refine lv_aload_n hx hb dX3_newness_0 rfl (lv_at hl 0 rfl) ?_
  refine lv_aload_n hx hb dX3_newness_1 rfl (lv_at hl 0 rfl) ?_
  refine lv_iload_n hx hb dX3_newness_2 rfl (lv_at hl 1 rfl) ?_
  refine z_csV (As := [.int v]) (rest := [.ref (b 0)]) ⟨hx, hb, hml, hown, hts⟩ (c_X3_isPatch l D cs (b 0) [.int th, .int (nI sg.1.length), .ref (b 1), .int (nI sg.2.1.length), .ref (b 2), .int (nI sg.2.2.1.length), .ref (b 3), .ref (b 4), .ref (b 5), .ref (mI w), .int (nI sg.2.2.2.2.length), .ref (b 6)] v sg.2.2.1.length rfl) (cwV 1 hts gX3_newness_X3_isPatch rfl rfl rfl (by decide +kernel) ⟨Nat.le_of_ble_eq_true rfl, Nat.le_of_ble_eq_true rfl⟩) (hW.1 0 _ rfl) rfl (hW.1 0 _ rfl) hK rfl hl.1 rfl (Nat.le_of_ble_eq_true rfl) dX3_newness_3 ⟨(by rw [hRc]; omega), (by rw [hRs]; omega)⟩ (fun r hq9 => ?_)
  have hq9 : r = bI (vI v sg.2.2.1.length) := hq9
  subst hq9
  refine z_ifb_eq (tgt := 13) hx hb dX3_newness_6 (by decide) (fun _ => ?_) (fun h9 => absurd (h9.symm.trans hv) (by decide))
  refine lv_iconst (v := nI 1) hx hb dX3_newness_13 (by decide) ?_
  refine z_put (ty := .int) (ci := 4) (v := .int (nI 1)) (C := RX3) (T := TX3) (N := 12) hx hb hts in4 tyX3 tyX3_ok nmX3 hown hK hW hS 0 rfl rfl 0 (by decide) fl33 (fun _ h9 => h9) rfl (by decide +kernel) rfl rfl (Nat.le_of_ble_eq_true rfl) dX3_newness_14 (fun H locs hW hS => ?_)
  have hW : Wd D S0 (((b 0), .inr (4, [.int (nI 1), .int (nI sg.1.length), .ref (b 1), .int (nI sg.2.1.length), .ref (b 2), .int (nI sg.2.2.1.length), .ref (b 3), .ref (b 4), .ref (b 5), .ref (mI w), .int (nI sg.2.2.2.2.length), .ref (b 6)])) :: ((b 1), fa cs 400 (mf w)) :: ((b 2), qa cs 2 12 (mg w 0)) :: ((b 3), qa cs 2 12 (mg w 1)) :: ((b 4), qa cs 2 12 (mg w 2)) :: ((b 5), qa cs 2 12 (mg w 3)) :: ((b 6), qa cs 2 20 (mg w 4)) :: Z) H := hW
  refine lv_aload_n hx hb dX3_newness_17 rfl (lv_at hl 0 rfl) ?_
  refine z_get (ci := 4) (v := .int (nI 1)) (C := RX3) (T := TX3) (N := 12) hx hb hts in4 hown hK (hW.1 0 _ rfl) rfl 0 (by decide) fl33 (fun _ h9 => h9) rfl dX3_newness_18 ?_
  refine lv_if_ne (tgt := 34) hx hb dX3_newness_21 (by decide) (fun _ => ?_) (fun h9 => absurd h9 (by decide))
  refine lv_dconst0 hx hb dX3_newness_34 ?_
  refine W.widen (k := 0) (n := 0) (by omega) (by omega) ?_
  exact W.dret (v := FP.dconst0) hx hb hr (fun t ht hW9 => ⟨⟨_, (w, []), rfl, ⟨fun h9 => absurd h9 (by decide), hF⟩, (by show Wd D S0 _ _; rw [ht]; exact hW)⟩, hS.F ht⟩) (fun q9 h9 => hS.2.2 q9 h9) dX3_newness_35

set_option maxHeartbeats 4000000 in
set_option maxRecDepth 100000 in
theorem c_X3_newness (l : Launch) (D : va_G) (cs : Nat → ClassId) (S0 : Nat) (Z : va_W) (b : Nat → Nat) (w : MU) (sg : St) (hF : MF cs w sg Z) (th : Int32) (j9 : Nat) (hj : j9 < sg.2.2.1.length)  : Met l yX3_newness wsX3_newness ({ frames := 2, cells := 0, slots := 0, locals := 43 }) (zM [.ref (b 0), .int (nI j9)] (fun H => Wd D S0 (MW cs b w (th) sg Z) H) D cs) (va_Qd (fun r (v : MU × va_W) => ((0 : Nat) = 0 → r = nwD (litN (rf (psN sg.2.2.1 j9).2.2) (psN sg.2.2.1 j9).2.1.length) (psN sg.2.2.1 j9).2.1.length) ∧ MF cs v.1 sg (v.2 ++ Z)) (fun v t => Wd D S0 (MW cs b v.1 (nI 0) sg (v.2 ++ Z)) t.heap) (SA S0)) 0 0 (SA S0) := by
  refine Met.ofW (cc := cX3_newness) (maxL := 2) (ret := (some .double)) (by decide) rfl ?_
  intro p e s m args below meth c s₁ B hml hv
  obtain ⟨rfl, hW, hK, hA9⟩ := hv
  have hx := B.exec
  have hb := B.bytes
  have hr := B.returns
  have hts := atoms_spec (ws := wsX3_newness) B.pre
  have hown : s.vm.findClass RX3 = some m.cls := findClass_of_methodNamed B.named
  have hlocks := B.notSynchronized
  have hRc : (headSpec wsX3_newness ({ frames := 2, cells := 0, slots := 0, locals := 43 })).room.cells = 0 := rfl
  have hRs : (headSpec wsX3_newness ({ frames := 2, cells := 0, slots := 0, locals := 43 })).room.slots = 0 := rfl
  have fl21 := hts (.fieldLink RX3 21 "DeltaUpdaterModel" "goals" "[[I") (by decide +kernel)
  have fl33 := hts (.fieldLink RX3 33 "DeltaUpdaterModel" "thrown" "I") (by decide +kernel)
  have in4 : ∀ w ∈ u_ws RX3 TX3 12, w ∈ wsX3_newness := by decide +kernel
  have hW : Wd D S0 (MW cs b w (th) sg Z) s.heap := hW
  have hS0 : S0 ≤ s.heap.size := hW.2.2
  have hS : va_S (SA S0) s.heap s.heap [] := va_S.rf
  have hl := lv_entry ([.ref (b 0), .int (nI j9)]) (n := 2) (Nat.le_of_ble_eq_true rfl)
  rw [lg_entry_eq]
  generalize (lg_sl ([.ref (b 0), .int (nI j9)]) ++ List.replicate (2 - (lg_sl ([.ref (b 0), .int (nI j9)])).length) Slot.unset).toArray = ls at hl ⊢
  have hl : lv_has ls 2 [(0, .ref (b 0)), (1, .int (nI j9))] := hl
  have hok := hF.2.2.2.2.2
  have hbl := hok.1.1
  have hnv := hok.2.1.1
  have hnp := hok.2.2.1.1
  have hnh := hok.2.2.2.2.1
  have hji := vI_in hj (show sg.2.2.1.length < 2 ^ 30 by omega)
  have hlp := (hok.2.2.1.2 j9 hj).2.1.1
  refine lv_aload_n hx hb dX3_newness_0 rfl (lv_at hl 0 rfl) ?_
  refine lv_aload_n hx hb dX3_newness_1 rfl (lv_at hl 0 rfl) ?_
  refine lv_iload_n hx hb dX3_newness_2 rfl (lv_at hl 1 rfl) ?_
  refine z_csV (As := [.int (nI j9)]) (rest := [.ref (b 0)]) ⟨hx, hb, hml, hown, hts⟩ (c_X3_isPatch l D cs (b 0) [.int th, .int (nI sg.1.length), .ref (b 1), .int (nI sg.2.1.length), .ref (b 2), .int (nI sg.2.2.1.length), .ref (b 3), .ref (b 4), .ref (b 5), .ref (mI w), .int (nI sg.2.2.2.2.length), .ref (b 6)] (nI j9) sg.2.2.1.length rfl) (cwV 1 hts gX3_newness_X3_isPatch rfl rfl rfl (by decide +kernel) ⟨Nat.le_of_ble_eq_true rfl, Nat.le_of_ble_eq_true rfl⟩) (hW.1 0 _ rfl) rfl (hW.1 0 _ rfl) hK rfl hl.1 rfl (Nat.le_of_ble_eq_true rfl) dX3_newness_3 ⟨(by rw [hRc]; omega), (by rw [hRs]; omega)⟩ (fun r hq9 => ?_)
  have hq9 : r = bI (vI (nI j9) sg.2.2.1.length) := hq9
  subst hq9
  refine z_ifb_eq (tgt := 13) hx hb dX3_newness_6 (by decide) (fun h9 => absurd (h9.symm.trans hji) (by decide)) (fun _ => ?_)
  refine lv_iconst (v := nI 0) hx hb dX3_newness_9 (by decide) ?_
  refine lv_goto (tgt := 14) hx hb dX3_newness_10 (by decide) ?_
  refine z_put (ty := .int) (ci := 4) (v := .int (nI 0)) (C := RX3) (T := TX3) (N := 12) hx hb hts in4 tyX3 tyX3_ok nmX3 hown hK hW hS 0 rfl rfl 0 (by decide) fl33 (fun _ h9 => h9) rfl (by decide +kernel) rfl rfl (Nat.le_of_ble_eq_true rfl) dX3_newness_14 (fun H locs hW hS => ?_)
  have hW : Wd D S0 (((b 0), .inr (4, [.int (nI 0), .int (nI sg.1.length), .ref (b 1), .int (nI sg.2.1.length), .ref (b 2), .int (nI sg.2.2.1.length), .ref (b 3), .ref (b 4), .ref (b 5), .ref (mI w), .int (nI sg.2.2.2.2.length), .ref (b 6)])) :: ((b 1), fa cs 400 (mf w)) :: ((b 2), qa cs 2 12 (mg w 0)) :: ((b 3), qa cs 2 12 (mg w 1)) :: ((b 4), qa cs 2 12 (mg w 2)) :: ((b 5), qa cs 2 12 (mg w 3)) :: ((b 6), qa cs 2 20 (mg w 4)) :: Z) H := hW
  refine lv_aload_n hx hb dX3_newness_17 rfl (lv_at hl 0 rfl) ?_
  refine z_get (ci := 4) (v := .int (nI 0)) (C := RX3) (T := TX3) (N := 12) hx hb hts in4 hown hK (hW.1 0 _ rfl) rfl 0 (by decide) fl33 (fun _ h9 => h9) rfl dX3_newness_18 ?_
  refine lv_if_ne (tgt := 34) hx hb dX3_newness_21 (by decide) (fun h9 => absurd (by decide) h9) (fun _ => ?_)
  refine lv_aload_n hx hb dX3_newness_24 rfl (lv_at hl 0 rfl) ?_
  refine z_get (ci := 4) (v := .ref (b 4)) (C := RX3) (T := TX3) (N := 12) hx hb hts in4 hown hK (hW.1 0 _ rfl) rfl 7 (by decide) fl21 (fun _ h9 => h9) rfl dX3_newness_25 ?_
  refine lv_iload_n hx hb dX3_newness_28 rfl (lv_at hl 1 rfl) ?_
  refine z_aald (k := j9) (y := (mA w 2 j9)) (t0 := 2) hx hb hK (hW.1 4 _ rfl) rfl rfl (by omega) (by omega) (hF.2.2.1 j9 hj).2.1.1 dX3_newness_29 ?_
  refine z_alen (n := ((psN sg.2.2.1 j9).2.1.length)) hx hb hK (hW.mem (List.mem_cons_of_mem _ (List.mem_cons_of_mem _ (List.mem_cons_of_mem _ (List.mem_cons_of_mem _ (List.mem_cons_of_mem _ (List.mem_cons_of_mem _ (List.mem_cons_of_mem _ (hF.2.2.1 j9 hj).2.1.2)))))))) dX3_newness_30 ?_
  refine z_ifn_ne (tgt := 36) hx hb (by omega) dX3_newness_31 (by decide) (fun hc31 => ?_) (fun hc31 => ?_)
  · skip
    have hc31 : ¬ (psN sg.2.2.1 j9).2.1.length = 0 := hc31
    refine lv_aload_n hx hb dX3_newness_36 rfl (lv_at hl 0 rfl) ?_
    refine lv_iload_n hx hb dX3_newness_37 rfl (lv_at hl 1 rfl) ?_
    refine z_csV (As := [.int (nI j9)]) (rest := []) ⟨hx, hb, hml, hown, hts⟩ (c_X3_literals l D cs (b 0) (b 5) sg.2.2.1.length [.int (nI 0), .int (nI sg.1.length), .ref (b 1), .int (nI sg.2.1.length), .ref (b 2), .int (nI sg.2.2.1.length), .ref (b 3), .ref (b 4), .ref (b 5), .ref (mI w), .int (nI sg.2.2.2.2.length), .ref (b 6)] (mg w 3) rfl j9 hj hnp (mA w 3 j9) (psN sg.2.2.1 j9).2.1.length (hF.2.2.1 j9 hj).2.2.1 (rf (psN sg.2.2.1 j9).2.2) (by omega)) (cwV 1 hts gX3_newness_X3_literals rfl rfl rfl (by decide +kernel) ⟨Nat.le_of_ble_eq_true rfl, Nat.le_of_ble_eq_true rfl⟩) (hW.1 0 _ rfl) rfl ⟨(hW.1 0 _ rfl), (hW.1 5 _ rfl), (hW.mem (List.mem_cons_of_mem _ (List.mem_cons_of_mem _ (List.mem_cons_of_mem _ (List.mem_cons_of_mem _ (List.mem_cons_of_mem _ (List.mem_cons_of_mem _ (List.mem_cons_of_mem _ (hF.2.2.1 j9 hj).2.2.2))))))))⟩ hK rfl hl.1 rfl (Nat.le_of_ble_eq_true rfl) dX3_newness_38 ⟨(by rw [hRc]; omega), (by rw [hRs]; omega)⟩ (fun r hq9 => ?_)
    have hq9 : r = nI (litN (rf (psN sg.2.2.1 j9).2.2) (psN sg.2.2.1 j9).2.1.length) := hq9
    subst hq9
    refine lv_i2d hx hb dX3_newness_41 ?_
    refine lv_aload_n hx hb dX3_newness_42 rfl (lv_at hl 0 rfl) ?_
    refine z_get (ci := 4) (v := .ref (b 4)) (C := RX3) (T := TX3) (N := 12) hx hb hts in4 hown hK (hW.1 0 _ rfl) rfl 7 (by decide) fl21 (fun _ h9 => h9) rfl dX3_newness_43 ?_
    refine lv_iload_n hx hb dX3_newness_46 rfl (lv_at hl 1 rfl) ?_
    refine z_aald (k := j9) (y := (mA w 2 j9)) (t0 := 2) hx hb hK (hW.1 4 _ rfl) rfl rfl (by omega) (by omega) (hF.2.2.1 j9 hj).2.1.1 dX3_newness_47 ?_
    refine z_alen (n := ((psN sg.2.2.1 j9).2.1.length)) hx hb hK (hW.mem (List.mem_cons_of_mem _ (List.mem_cons_of_mem _ (List.mem_cons_of_mem _ (List.mem_cons_of_mem _ (List.mem_cons_of_mem _ (List.mem_cons_of_mem _ (List.mem_cons_of_mem _ (hF.2.2.1 j9 hj).2.1.2)))))))) dX3_newness_48 ?_
    refine lv_i2d hx hb dX3_newness_49 ?_
    refine lv_ddiv hx hb dX3_newness_50 (nn_div _ _ (nI_nz hc31 (by omega))) ?_
    refine W.widen (k := 0) (n := 0) (by omega) (by omega) ?_
    exact W.dret (v := FP.ddiv (FP.i2d (nI (litN (rf (psN sg.2.2.1 j9).2.2) (psN sg.2.2.1 j9).2.1.length))) (FP.i2d (nI ((psN sg.2.2.1 j9).2.1.length)))) hx hb hr (fun t ht hW9 => ⟨⟨_, (w, []), rfl, ⟨fun _ => by unfold nwD; rw [if_neg hc31], hF⟩, (by show Wd D S0 _ _; rw [ht]; exact hW)⟩, hS.F ht⟩) (fun q9 h9 => hS.2.2 q9 h9) dX3_newness_51
  · skip
    have hc31 : (psN sg.2.2.1 j9).2.1.length = 0 := hc31
    refine lv_dconst0 hx hb dX3_newness_34 ?_
    refine W.widen (k := 0) (n := 0) (by omega) (by omega) ?_
    exact W.dret (v := FP.dconst0) hx hb hr (fun t ht hW9 => ⟨⟨_, (w, []), rfl, ⟨fun _ => by unfold nwD; rw [if_pos hc31], hF⟩, (by show Wd D S0 _ _; rw [ht]; exact hW)⟩, hS.F ht⟩) (fun q9 h9 => hS.2.2 q9 h9) dX3_newness_35

set_option maxHeartbeats 4000000 in
set_option maxRecDepth 100000 in
theorem c_X3_apply_a (l : Launch) (D : va_G) (cs : Nat → ClassId) (S0 : Nat) (Z : va_W) (b : Nat → Nat) (w : MU) (sg : St) (hF : MF cs w sg Z) (th : Int32) (v : Int32) (hv : vI v sg.2.2.1.length = false) (w9i : Int32)  : Met l yX3_apply wsX3_apply ({ frames := 2, cells := 0, slots := 0, locals := 43 }) (zM [.ref (b 0), .int v, .int w9i] (fun H => Wd D S0 (MW cs b w (th) sg Z) H) D cs) (va_Qi (fun r (v : MU × va_W) => ((1 : Nat) = 0 → r = nI 0) ∧ MF cs v.1 sg (v.2 ++ Z)) (fun v t => Wd D S0 (MW cs b v.1 (nI 1) sg (v.2 ++ Z)) t.heap) (SA S0)) 0 0 (SA S0) := by
  refine Met.ofW (cc := cX3_apply) (maxL := 3) (ret := (some .int)) (by decide) rfl ?_
  intro p e s m args below meth c s₁ B hml hv
  obtain ⟨rfl, hW, hK, hA9⟩ := hv
  have hx := B.exec
  have hb := B.bytes
  have hr := B.returns
  have hts := atoms_spec (ws := wsX3_apply) B.pre
  have hown : s.vm.findClass RX3 = some m.cls := findClass_of_methodNamed B.named
  have hlocks := B.notSynchronized
  have hRc : (headSpec wsX3_apply ({ frames := 2, cells := 0, slots := 0, locals := 43 })).room.cells = 0 := rfl
  have hRs : (headSpec wsX3_apply ({ frames := 2, cells := 0, slots := 0, locals := 43 })).room.slots = 0 := rfl
  have fl33 := hts (.fieldLink RX3 33 "DeltaUpdaterModel" "thrown" "I") (by decide +kernel)
  have in4 : ∀ w ∈ u_ws RX3 TX3 12, w ∈ wsX3_apply := by decide +kernel
  have hW : Wd D S0 (MW cs b w (th) sg Z) s.heap := hW
  have hS0 : S0 ≤ s.heap.size := hW.2.2
  have hS : va_S (SA S0) s.heap s.heap [] := va_S.rf
  have hl := lv_entry ([.ref (b 0), .int v, .int w9i]) (n := 3) (Nat.le_of_ble_eq_true rfl)
  rw [lg_entry_eq]
  generalize (lg_sl ([.ref (b 0), .int v, .int w9i]) ++ List.replicate (3 - (lg_sl ([.ref (b 0), .int v, .int w9i])).length) Slot.unset).toArray = ls at hl ⊢
  have hl : lv_has ls 3 [(0, .ref (b 0)), (1, .int v), (2, .int w9i)] := hl
  have hok := hF.2.2.2.2.2
  have hbl := hok.1.1
  have hnv := hok.2.1.1
  have hnp := hok.2.2.1.1
  have hnh := hok.2.2.2.2.1
  refine lv_aload_n hx hb dX3_apply_0 rfl (lv_at hl 0 rfl) ?_
  refine lv_iconst (v := nI 0) hx hb dX3_apply_1 (by decide) ?_
  refine z_put (ty := .int) (ci := 4) (v := .int (nI 0)) (C := RX3) (T := TX3) (N := 12) hx hb hts in4 tyX3 tyX3_ok nmX3 hown hK hW hS 0 rfl rfl 0 (by decide) fl33 (fun _ h9 => h9) rfl (by decide +kernel) rfl rfl (Nat.le_of_ble_eq_true rfl) dX3_apply_2 (fun H locs hW hS => ?_)
  have hW : Wd D S0 (((b 0), .inr (4, [.int (nI 0), .int (nI sg.1.length), .ref (b 1), .int (nI sg.2.1.length), .ref (b 2), .int (nI sg.2.2.1.length), .ref (b 3), .ref (b 4), .ref (b 5), .ref (mI w), .int (nI sg.2.2.2.2.length), .ref (b 6)])) :: ((b 1), fa cs 400 (mf w)) :: ((b 2), qa cs 2 12 (mg w 0)) :: ((b 3), qa cs 2 12 (mg w 1)) :: ((b 4), qa cs 2 12 (mg w 2)) :: ((b 5), qa cs 2 12 (mg w 3)) :: ((b 6), qa cs 2 20 (mg w 4)) :: Z) H := hW
  refine lv_aload_n hx hb dX3_apply_5 rfl (lv_at hl 0 rfl) ?_
  refine lv_iload_n hx hb dX3_apply_6 rfl (lv_at hl 1 rfl) ?_
  refine z_csV (As := [.int v]) (rest := []) ⟨hx, hb, hml, hown, hts⟩ (c_X3_isPatch l D cs (b 0) [.int (nI 0), .int (nI sg.1.length), .ref (b 1), .int (nI sg.2.1.length), .ref (b 2), .int (nI sg.2.2.1.length), .ref (b 3), .ref (b 4), .ref (b 5), .ref (mI w), .int (nI sg.2.2.2.2.length), .ref (b 6)] v sg.2.2.1.length rfl) (cwV 1 hts gX3_apply_X3_isPatch rfl rfl rfl (by decide +kernel) ⟨Nat.le_of_ble_eq_true rfl, Nat.le_of_ble_eq_true rfl⟩) (hW.1 0 _ rfl) rfl (hW.1 0 _ rfl) hK rfl hl.1 rfl (Nat.le_of_ble_eq_true rfl) dX3_apply_7 ⟨(by rw [hRc]; omega), (by rw [hRs]; omega)⟩ (fun r hq9 => ?_)
  have hq9 : r = bI (vI v sg.2.2.1.length) := hq9
  subst hq9
  refine z_ifb_eq (tgt := 21) hx hb dX3_apply_10 (by decide) (fun _ => ?_) (fun h9 => absurd (h9.symm.trans hv) (by decide))
  refine lv_aload_n hx hb dX3_apply_21 rfl (lv_at hl 0 rfl) ?_
  refine lv_iconst (v := nI 1) hx hb dX3_apply_22 (by decide) ?_
  refine z_cmI (va_runV (As := [.int (nI 1)]) (rest := []) ⟨hx, hb, hml, hown, hts⟩ (c_X3_fail l D cs S0 Z b w (nI 0) (nI 1) sg) (cwV 1 hts gX3_apply_X3_fail rfl rfl rfl (by decide +kernel) ⟨Nat.le_of_ble_eq_true rfl, Nat.le_of_ble_eq_true rfl⟩) ⟨zP_blind, z_recv hK (hW.1 0 _ rfl) rfl, (zP_pre hW hK)⟩ rfl rfl hl.1 rfl (lv_room (Nat.le_of_ble_eq_true rfl)) dX3_apply_23 ⟨(by rw [hRc]; omega), (by rw [hRs]; omega)⟩) hS (fun r u8 H locs hu hW hS => ?_)
  rw [hu]
  have hW : Wd D S0 (((b 0), .inr (4, [.int (nI 1), .int (nI sg.1.length), .ref (b 1), .int (nI sg.2.1.length), .ref (b 2), .int (nI sg.2.2.1.length), .ref (b 3), .ref (b 4), .ref (b 5), .ref (mI w), .int (nI sg.2.2.2.2.length), .ref (b 6)])) :: ((b 1), fa cs 400 (mf w)) :: ((b 2), qa cs 2 12 (mg w 0)) :: ((b 3), qa cs 2 12 (mg w 1)) :: ((b 4), qa cs 2 12 (mg w 2)) :: ((b 5), qa cs 2 12 (mg w 3)) :: ((b 6), qa cs 2 20 (mg w 4)) :: Z) H := hW
  refine W.widen (k := 0) (n := 0) (by omega) (by omega) ?_
  exact W.iret (v := nI 0) hx hb hr (fun t ht hW9 => ⟨⟨_, (w, []), rfl, ⟨fun h9 => absurd h9 (by decide), hF⟩, (by show Wd D S0 _ _; rw [ht]; exact hW)⟩, hS.F ht⟩) (fun q9 h9 => hS.2.2 q9 h9) dX3_apply_26

set_option maxHeartbeats 4000000 in
set_option maxRecDepth 100000 in
theorem c_X3_apply_b (l : Launch) (D : va_G) (cs : Nat → ClassId) (S0 : Nat) (Z : va_W) (b : Nat → Nat) (w : MU) (sg : St) (hF : MF cs w sg Z) (th : Int32) (j9 : Nat) (hj : j9 < sg.2.2.1.length) (v : Int32) (hv : vI v sg.2.1.length = false)  : Met l yX3_apply wsX3_apply ({ frames := 2, cells := 0, slots := 0, locals := 43 }) (zM [.ref (b 0), .int (nI j9), .int v] (fun H => Wd D S0 (MW cs b w (th) sg Z) H) D cs) (va_Qi (fun r (v : MU × va_W) => ((1 : Nat) = 0 → r = nI 0) ∧ MF cs v.1 sg (v.2 ++ Z)) (fun v t => Wd D S0 (MW cs b v.1 (nI 1) sg (v.2 ++ Z)) t.heap) (SA S0)) 0 0 (SA S0) := by
  refine Met.ofW (cc := cX3_apply) (maxL := 3) (ret := (some .int)) (by decide) rfl ?_
  intro p e s m args below meth c s₁ B hml hv
  obtain ⟨rfl, hW, hK, hA9⟩ := hv
  have hx := B.exec
  have hb := B.bytes
  have hr := B.returns
  have hts := atoms_spec (ws := wsX3_apply) B.pre
  have hown : s.vm.findClass RX3 = some m.cls := findClass_of_methodNamed B.named
  have hlocks := B.notSynchronized
  have hRc : (headSpec wsX3_apply ({ frames := 2, cells := 0, slots := 0, locals := 43 })).room.cells = 0 := rfl
  have hRs : (headSpec wsX3_apply ({ frames := 2, cells := 0, slots := 0, locals := 43 })).room.slots = 0 := rfl
  have fl33 := hts (.fieldLink RX3 33 "DeltaUpdaterModel" "thrown" "I") (by decide +kernel)
  have in4 : ∀ w ∈ u_ws RX3 TX3 12, w ∈ wsX3_apply := by decide +kernel
  have hW : Wd D S0 (MW cs b w (th) sg Z) s.heap := hW
  have hS0 : S0 ≤ s.heap.size := hW.2.2
  have hS : va_S (SA S0) s.heap s.heap [] := va_S.rf
  have hl := lv_entry ([.ref (b 0), .int (nI j9), .int v]) (n := 3) (Nat.le_of_ble_eq_true rfl)
  rw [lg_entry_eq]
  generalize (lg_sl ([.ref (b 0), .int (nI j9), .int v]) ++ List.replicate (3 - (lg_sl ([.ref (b 0), .int (nI j9), .int v])).length) Slot.unset).toArray = ls at hl ⊢
  have hl : lv_has ls 3 [(0, .ref (b 0)), (1, .int (nI j9)), (2, .int v)] := hl
  have hok := hF.2.2.2.2.2
  have hbl := hok.1.1
  have hnv := hok.2.1.1
  have hnp := hok.2.2.1.1
  have hnh := hok.2.2.2.2.1
  have hji := vI_in hj (show sg.2.2.1.length < 2 ^ 30 by omega)
  refine lv_aload_n hx hb dX3_apply_0 rfl (lv_at hl 0 rfl) ?_
  refine lv_iconst (v := nI 0) hx hb dX3_apply_1 (by decide) ?_
  refine z_put (ty := .int) (ci := 4) (v := .int (nI 0)) (C := RX3) (T := TX3) (N := 12) hx hb hts in4 tyX3 tyX3_ok nmX3 hown hK hW hS 0 rfl rfl 0 (by decide) fl33 (fun _ h9 => h9) rfl (by decide +kernel) rfl rfl (Nat.le_of_ble_eq_true rfl) dX3_apply_2 (fun H locs hW hS => ?_)
  have hW : Wd D S0 (((b 0), .inr (4, [.int (nI 0), .int (nI sg.1.length), .ref (b 1), .int (nI sg.2.1.length), .ref (b 2), .int (nI sg.2.2.1.length), .ref (b 3), .ref (b 4), .ref (b 5), .ref (mI w), .int (nI sg.2.2.2.2.length), .ref (b 6)])) :: ((b 1), fa cs 400 (mf w)) :: ((b 2), qa cs 2 12 (mg w 0)) :: ((b 3), qa cs 2 12 (mg w 1)) :: ((b 4), qa cs 2 12 (mg w 2)) :: ((b 5), qa cs 2 12 (mg w 3)) :: ((b 6), qa cs 2 20 (mg w 4)) :: Z) H := hW
  refine lv_aload_n hx hb dX3_apply_5 rfl (lv_at hl 0 rfl) ?_
  refine lv_iload_n hx hb dX3_apply_6 rfl (lv_at hl 1 rfl) ?_
  refine z_csV (As := [.int (nI j9)]) (rest := []) ⟨hx, hb, hml, hown, hts⟩ (c_X3_isPatch l D cs (b 0) [.int (nI 0), .int (nI sg.1.length), .ref (b 1), .int (nI sg.2.1.length), .ref (b 2), .int (nI sg.2.2.1.length), .ref (b 3), .ref (b 4), .ref (b 5), .ref (mI w), .int (nI sg.2.2.2.2.length), .ref (b 6)] (nI j9) sg.2.2.1.length rfl) (cwV 1 hts gX3_apply_X3_isPatch rfl rfl rfl (by decide +kernel) ⟨Nat.le_of_ble_eq_true rfl, Nat.le_of_ble_eq_true rfl⟩) (hW.1 0 _ rfl) rfl (hW.1 0 _ rfl) hK rfl hl.1 rfl (Nat.le_of_ble_eq_true rfl) dX3_apply_7 ⟨(by rw [hRc]; omega), (by rw [hRs]; omega)⟩ (fun r hq9 => ?_)
  have hq9 : r = bI (vI (nI j9) sg.2.2.1.length) := hq9
  subst hq9
  refine z_ifb_eq (tgt := 21) hx hb dX3_apply_10 (by decide) (fun h9 => absurd (h9.symm.trans hji) (by decide)) (fun _ => ?_)
  refine lv_aload_n hx hb dX3_apply_13 rfl (lv_at hl 0 rfl) ?_
  refine lv_iload_n hx hb dX3_apply_14 rfl (lv_at hl 2 rfl) ?_
  refine z_csV (As := [.int v]) (rest := []) ⟨hx, hb, hml, hown, hts⟩ (c_X3_isVersion l D cs (b 0) [.int (nI 0), .int (nI sg.1.length), .ref (b 1), .int (nI sg.2.1.length), .ref (b 2), .int (nI sg.2.2.1.length), .ref (b 3), .ref (b 4), .ref (b 5), .ref (mI w), .int (nI sg.2.2.2.2.length), .ref (b 6)] v sg.2.1.length rfl) (cwV 1 hts gX3_apply_X3_isVersion rfl rfl rfl (by decide +kernel) ⟨Nat.le_of_ble_eq_true rfl, Nat.le_of_ble_eq_true rfl⟩) (hW.1 0 _ rfl) rfl (hW.1 0 _ rfl) hK rfl hl.1 rfl (Nat.le_of_ble_eq_true rfl) dX3_apply_15 ⟨(by rw [hRc]; omega), (by rw [hRs]; omega)⟩ (fun r hq9 => ?_)
  have hq9 : r = bI (vI v sg.2.1.length) := hq9
  subst hq9
  refine z_ifb_ne (tgt := 27) hx hb dX3_apply_18 (by decide) (fun h9 => absurd (h9.symm.trans hv) (by decide)) (fun _ => ?_)
  refine lv_aload_n hx hb dX3_apply_21 rfl (lv_at hl 0 rfl) ?_
  refine lv_iconst (v := nI 1) hx hb dX3_apply_22 (by decide) ?_
  refine z_cmI (va_runV (As := [.int (nI 1)]) (rest := []) ⟨hx, hb, hml, hown, hts⟩ (c_X3_fail l D cs S0 Z b w (nI 0) (nI 1) sg) (cwV 1 hts gX3_apply_X3_fail rfl rfl rfl (by decide +kernel) ⟨Nat.le_of_ble_eq_true rfl, Nat.le_of_ble_eq_true rfl⟩) ⟨zP_blind, z_recv hK (hW.1 0 _ rfl) rfl, (zP_pre hW hK)⟩ rfl rfl hl.1 rfl (lv_room (Nat.le_of_ble_eq_true rfl)) dX3_apply_23 ⟨(by rw [hRc]; omega), (by rw [hRs]; omega)⟩) hS (fun r u8 H locs hu hW hS => ?_)
  rw [hu]
  have hW : Wd D S0 (((b 0), .inr (4, [.int (nI 1), .int (nI sg.1.length), .ref (b 1), .int (nI sg.2.1.length), .ref (b 2), .int (nI sg.2.2.1.length), .ref (b 3), .ref (b 4), .ref (b 5), .ref (mI w), .int (nI sg.2.2.2.2.length), .ref (b 6)])) :: ((b 1), fa cs 400 (mf w)) :: ((b 2), qa cs 2 12 (mg w 0)) :: ((b 3), qa cs 2 12 (mg w 1)) :: ((b 4), qa cs 2 12 (mg w 2)) :: ((b 5), qa cs 2 12 (mg w 3)) :: ((b 6), qa cs 2 20 (mg w 4)) :: Z) H := hW
  refine W.widen (k := 0) (n := 0) (by omega) (by omega) ?_
  exact W.iret (v := nI 0) hx hb hr (fun t ht hW9 => ⟨⟨_, (w, []), rfl, ⟨fun h9 => absurd h9 (by decide), hF⟩, (by show Wd D S0 _ _; rw [ht]; exact hW)⟩, hS.F ht⟩) (fun q9 h9 => hS.2.2 q9 h9) dX3_apply_26

set_option maxHeartbeats 4000000 in
set_option maxRecDepth 100000 in
theorem c_X3_apply_c (l : Launch) (D : va_G) (cs : Nat → ClassId) (S0 : Nat) (Z : va_W) (b : Nat → Nat) (w : MU) (sg : St) (hF : MF cs w sg Z) (th : Int32) (j9 : Nat) (hj : j9 < sg.2.2.1.length) (v9 : Nat) (hv9 : v9 < sg.2.1.length) (hne : eqL (vsN sg.2.1 v9) (psN sg.2.2.1 j9).1 = false)  : Met l yX3_apply wsX3_apply ({ frames := 2, cells := 0, slots := 0, locals := 43 }) (zM [.ref (b 0), .int (nI j9), .int (nI v9)] (fun H => Wd D S0 (MW cs b w (th) sg Z) H) D cs) (va_Qi (fun r (v : MU × va_W) => ((2 : Nat) = 0 → r = nI 0) ∧ MF cs v.1 sg (v.2 ++ Z)) (fun v t => Wd D S0 (MW cs b v.1 (nI 2) sg (v.2 ++ Z)) t.heap) (SA S0)) 0 0 (SA S0) := by
  refine Met.ofW (cc := cX3_apply) (maxL := 3) (ret := (some .int)) (by decide) rfl ?_
  intro p e s m args below meth c s₁ B hml hv
  obtain ⟨rfl, hW, hK, hA9⟩ := hv
  have hx := B.exec
  have hb := B.bytes
  have hr := B.returns
  have hts := atoms_spec (ws := wsX3_apply) B.pre
  have hown : s.vm.findClass RX3 = some m.cls := findClass_of_methodNamed B.named
  have hlocks := B.notSynchronized
  have hRc : (headSpec wsX3_apply ({ frames := 2, cells := 0, slots := 0, locals := 43 })).room.cells = 0 := rfl
  have hRs : (headSpec wsX3_apply ({ frames := 2, cells := 0, slots := 0, locals := 43 })).room.slots = 0 := rfl
  have fl14 := hts (.fieldLink RX3 14 "DeltaUpdaterModel" "rows" "[[I") (by decide +kernel)
  have fl18 := hts (.fieldLink RX3 18 "DeltaUpdaterModel" "bases" "[[I") (by decide +kernel)
  have fl33 := hts (.fieldLink RX3 33 "DeltaUpdaterModel" "thrown" "I") (by decide +kernel)
  have in4 : ∀ w ∈ u_ws RX3 TX3 12, w ∈ wsX3_apply := by decide +kernel
  have hW : Wd D S0 (MW cs b w (th) sg Z) s.heap := hW
  have hS0 : S0 ≤ s.heap.size := hW.2.2
  have hS : va_S (SA S0) s.heap s.heap [] := va_S.rf
  have hl := lv_entry ([.ref (b 0), .int (nI j9), .int (nI v9)]) (n := 3) (Nat.le_of_ble_eq_true rfl)
  rw [lg_entry_eq]
  generalize (lg_sl ([.ref (b 0), .int (nI j9), .int (nI v9)]) ++ List.replicate (3 - (lg_sl ([.ref (b 0), .int (nI j9), .int (nI v9)])).length) Slot.unset).toArray = ls at hl ⊢
  have hl : lv_has ls 3 [(0, .ref (b 0)), (1, .int (nI j9)), (2, .int (nI v9))] := hl
  have hok := hF.2.2.2.2.2
  have hbl := hok.1.1
  have hnv := hok.2.1.1
  have hnp := hok.2.2.1.1
  have hnh := hok.2.2.2.2.1
  have hji := vI_in hj (show sg.2.2.1.length < 2 ^ 30 by omega)
  have hvi := vI_in hv9 (show sg.2.1.length < 2 ^ 30 by omega)
  refine lv_aload_n hx hb dX3_apply_0 rfl (lv_at hl 0 rfl) ?_
  refine lv_iconst (v := nI 0) hx hb dX3_apply_1 (by decide) ?_
  refine z_put (ty := .int) (ci := 4) (v := .int (nI 0)) (C := RX3) (T := TX3) (N := 12) hx hb hts in4 tyX3 tyX3_ok nmX3 hown hK hW hS 0 rfl rfl 0 (by decide) fl33 (fun _ h9 => h9) rfl (by decide +kernel) rfl rfl (Nat.le_of_ble_eq_true rfl) dX3_apply_2 (fun H locs hW hS => ?_)
  have hW : Wd D S0 (((b 0), .inr (4, [.int (nI 0), .int (nI sg.1.length), .ref (b 1), .int (nI sg.2.1.length), .ref (b 2), .int (nI sg.2.2.1.length), .ref (b 3), .ref (b 4), .ref (b 5), .ref (mI w), .int (nI sg.2.2.2.2.length), .ref (b 6)])) :: ((b 1), fa cs 400 (mf w)) :: ((b 2), qa cs 2 12 (mg w 0)) :: ((b 3), qa cs 2 12 (mg w 1)) :: ((b 4), qa cs 2 12 (mg w 2)) :: ((b 5), qa cs 2 12 (mg w 3)) :: ((b 6), qa cs 2 20 (mg w 4)) :: Z) H := hW
  refine lv_aload_n hx hb dX3_apply_5 rfl (lv_at hl 0 rfl) ?_
  refine lv_iload_n hx hb dX3_apply_6 rfl (lv_at hl 1 rfl) ?_
  refine z_csV (As := [.int (nI j9)]) (rest := []) ⟨hx, hb, hml, hown, hts⟩ (c_X3_isPatch l D cs (b 0) [.int (nI 0), .int (nI sg.1.length), .ref (b 1), .int (nI sg.2.1.length), .ref (b 2), .int (nI sg.2.2.1.length), .ref (b 3), .ref (b 4), .ref (b 5), .ref (mI w), .int (nI sg.2.2.2.2.length), .ref (b 6)] (nI j9) sg.2.2.1.length rfl) (cwV 1 hts gX3_apply_X3_isPatch rfl rfl rfl (by decide +kernel) ⟨Nat.le_of_ble_eq_true rfl, Nat.le_of_ble_eq_true rfl⟩) (hW.1 0 _ rfl) rfl (hW.1 0 _ rfl) hK rfl hl.1 rfl (Nat.le_of_ble_eq_true rfl) dX3_apply_7 ⟨(by rw [hRc]; omega), (by rw [hRs]; omega)⟩ (fun r hq9 => ?_)
  have hq9 : r = bI (vI (nI j9) sg.2.2.1.length) := hq9
  subst hq9
  refine z_ifb_eq (tgt := 21) hx hb dX3_apply_10 (by decide) (fun h9 => absurd (h9.symm.trans hji) (by decide)) (fun _ => ?_)
  refine lv_aload_n hx hb dX3_apply_13 rfl (lv_at hl 0 rfl) ?_
  refine lv_iload_n hx hb dX3_apply_14 rfl (lv_at hl 2 rfl) ?_
  refine z_csV (As := [.int (nI v9)]) (rest := []) ⟨hx, hb, hml, hown, hts⟩ (c_X3_isVersion l D cs (b 0) [.int (nI 0), .int (nI sg.1.length), .ref (b 1), .int (nI sg.2.1.length), .ref (b 2), .int (nI sg.2.2.1.length), .ref (b 3), .ref (b 4), .ref (b 5), .ref (mI w), .int (nI sg.2.2.2.2.length), .ref (b 6)] (nI v9) sg.2.1.length rfl) (cwV 1 hts gX3_apply_X3_isVersion rfl rfl rfl (by decide +kernel) ⟨Nat.le_of_ble_eq_true rfl, Nat.le_of_ble_eq_true rfl⟩) (hW.1 0 _ rfl) rfl (hW.1 0 _ rfl) hK rfl hl.1 rfl (Nat.le_of_ble_eq_true rfl) dX3_apply_15 ⟨(by rw [hRc]; omega), (by rw [hRs]; omega)⟩ (fun r hq9 => ?_)
  have hq9 : r = bI (vI (nI v9) sg.2.1.length) := hq9
  subst hq9
  refine z_ifb_ne (tgt := 27) hx hb dX3_apply_18 (by decide) (fun _ => ?_) (fun h9 => absurd (h9.symm.trans hvi) (by decide))
  refine lv_aload_n hx hb dX3_apply_27 rfl (lv_at hl 0 rfl) ?_
  refine z_get (ci := 4) (v := .ref (b 2)) (C := RX3) (T := TX3) (N := 12) hx hb hts in4 hown hK (hW.1 0 _ rfl) rfl 4 (by decide) fl14 (fun _ h9 => h9) rfl dX3_apply_28 ?_
  refine lv_iload_n hx hb dX3_apply_31 rfl (lv_at hl 2 rfl) ?_
  refine z_aald (k := v9) (y := (mA w 0 v9)) (t0 := 2) hx hb hK (hW.1 2 _ rfl) rfl rfl (by omega) (by omega) (hF.2.1 v9 hv9).1 dX3_apply_32 ?_
  refine lv_aload_n hx hb dX3_apply_33 rfl (lv_at hl 0 rfl) ?_
  refine z_get (ci := 4) (v := .ref (b 3)) (C := RX3) (T := TX3) (N := 12) hx hb hts in4 hown hK (hW.1 0 _ rfl) rfl 6 (by decide) fl18 (fun _ h9 => h9) rfl dX3_apply_34 ?_
  refine lv_iload_n hx hb dX3_apply_37 rfl (lv_at hl 1 rfl) ?_
  refine z_aald (k := j9) (y := (mA w 1 j9)) (t0 := 2) hx hb hK (hW.1 3 _ rfl) rfl rfl (by omega) (by omega) (hF.2.2.1 j9 hj).1.1 dX3_apply_38 ?_
  refine z_csS (As := [.ref (mA w 0 v9), .ref (mA w 1 j9)]) (rest := []) ⟨hx, hb, hml, hown, hts⟩ (c_X3_are l D cs (mA w 0 v9) (mA w 1 j9) ((vsN sg.2.1 v9).length) ((psN sg.2.2.1 j9).1.length) (bb (vsN sg.2.1 v9)) (bb (psN sg.2.2.1 j9).1) (by have := (hok.2.1.2 v9 hv9).1; omega) (by have := (hok.2.2.1.2 j9 hj).1.1; omega)) (va_cwS 2 hts gX3_apply_X3_are rfl rfl rfl (by decide +kernel) ⟨Nat.le_of_ble_eq_true rfl, Nat.le_of_ble_eq_true rfl⟩) ⟨(hW.mem (List.mem_cons_of_mem _ (List.mem_cons_of_mem _ (List.mem_cons_of_mem _ (List.mem_cons_of_mem _ (List.mem_cons_of_mem _ (List.mem_cons_of_mem _ (List.mem_cons_of_mem _ (hF.2.1 v9 hv9).2)))))))), (hW.mem (List.mem_cons_of_mem _ (List.mem_cons_of_mem _ (List.mem_cons_of_mem _ (List.mem_cons_of_mem _ (List.mem_cons_of_mem _ (List.mem_cons_of_mem _ (List.mem_cons_of_mem _ (hF.2.2.1 j9 hj).1.2))))))))⟩ hK rfl hl.1 rfl (Nat.le_of_ble_eq_true rfl) dX3_apply_39 ⟨(by rw [hRc]; omega), (by rw [hRs]; omega)⟩ (fun r hq9 => ?_)
  have hq9 : r = bI (eqL (vsN sg.2.1 v9) (psN sg.2.2.1 j9).1) := hq9
  subst hq9
  refine z_ifb_ne (tgt := 51) hx hb dX3_apply_42 (by decide) (fun h9 => absurd (h9.symm.trans hne) (by decide)) (fun _ => ?_)
  refine lv_aload_n hx hb dX3_apply_45 rfl (lv_at hl 0 rfl) ?_
  refine lv_iconst (v := nI 2) hx hb dX3_apply_46 (by decide) ?_
  refine z_cmI (va_runV (As := [.int (nI 2)]) (rest := []) ⟨hx, hb, hml, hown, hts⟩ (c_X3_fail l D cs S0 Z b w (nI 0) (nI 2) sg) (cwV 1 hts gX3_apply_X3_fail rfl rfl rfl (by decide +kernel) ⟨Nat.le_of_ble_eq_true rfl, Nat.le_of_ble_eq_true rfl⟩) ⟨zP_blind, z_recv hK (hW.1 0 _ rfl) rfl, (zP_pre hW hK)⟩ rfl rfl hl.1 rfl (lv_room (Nat.le_of_ble_eq_true rfl)) dX3_apply_47 ⟨(by rw [hRc]; omega), (by rw [hRs]; omega)⟩) hS (fun r u8 H locs hu hW hS => ?_)
  rw [hu]
  have hW : Wd D S0 (((b 0), .inr (4, [.int (nI 2), .int (nI sg.1.length), .ref (b 1), .int (nI sg.2.1.length), .ref (b 2), .int (nI sg.2.2.1.length), .ref (b 3), .ref (b 4), .ref (b 5), .ref (mI w), .int (nI sg.2.2.2.2.length), .ref (b 6)])) :: ((b 1), fa cs 400 (mf w)) :: ((b 2), qa cs 2 12 (mg w 0)) :: ((b 3), qa cs 2 12 (mg w 1)) :: ((b 4), qa cs 2 12 (mg w 2)) :: ((b 5), qa cs 2 12 (mg w 3)) :: ((b 6), qa cs 2 20 (mg w 4)) :: Z) H := hW
  refine W.widen (k := 0) (n := 0) (by omega) (by omega) ?_
  exact W.iret (v := nI 0) hx hb hr (fun t ht hW9 => ⟨⟨_, (w, []), rfl, ⟨fun h9 => absurd h9 (by decide), hF⟩, (by show Wd D S0 _ _; rw [ht]; exact hW)⟩, hS.F ht⟩) (fun q9 h9 => hS.2.2 q9 h9) dX3_apply_50

set_option maxHeartbeats 4000000 in
set_option maxRecDepth 100000 in
theorem c_X3_apply_d (l : Launch) (D : va_G) (cs : Nat → ClassId) (S0 : Nat) (Z : va_W) (b : Nat → Nat) (w : MU) (sg : St) (hF : MF cs w sg Z) (th : Int32) (j9 : Nat) (hj : j9 < sg.2.2.1.length) (v9 : Nat) (hv9 : v9 < sg.2.1.length) (hee : eqL (vsN sg.2.1 v9) (psN sg.2.2.1 j9).1 = true) (hfull : 12 ≤ sg.2.1.length)  : Met l yX3_apply wsX3_apply ({ frames := 2, cells := 0, slots := 0, locals := 43 }) (zM [.ref (b 0), .int (nI j9), .int (nI v9)] (fun H => Wd D S0 (MW cs b w (th) sg Z) H) D cs) (va_Qi (fun r (v : MU × va_W) => ((3 : Nat) = 0 → r = nI 0) ∧ MF cs v.1 sg (v.2 ++ Z)) (fun v t => Wd D S0 (MW cs b v.1 (nI 3) sg (v.2 ++ Z)) t.heap) (SA S0)) 0 0 (SA S0) := by
  refine Met.ofW (cc := cX3_apply) (maxL := 3) (ret := (some .int)) (by decide) rfl ?_
  intro p e s m args below meth c s₁ B hml hv
  obtain ⟨rfl, hW, hK, hA9⟩ := hv
  have hx := B.exec
  have hb := B.bytes
  have hr := B.returns
  have hts := atoms_spec (ws := wsX3_apply) B.pre
  have hown : s.vm.findClass RX3 = some m.cls := findClass_of_methodNamed B.named
  have hlocks := B.notSynchronized
  have hRc : (headSpec wsX3_apply ({ frames := 2, cells := 0, slots := 0, locals := 43 })).room.cells = 0 := rfl
  have hRs : (headSpec wsX3_apply ({ frames := 2, cells := 0, slots := 0, locals := 43 })).room.slots = 0 := rfl
  have fl14 := hts (.fieldLink RX3 14 "DeltaUpdaterModel" "rows" "[[I") (by decide +kernel)
  have fl18 := hts (.fieldLink RX3 18 "DeltaUpdaterModel" "bases" "[[I") (by decide +kernel)
  have fl33 := hts (.fieldLink RX3 33 "DeltaUpdaterModel" "thrown" "I") (by decide +kernel)
  have fl37 := hts (.fieldLink RX3 37 "DeltaUpdaterModel" "versions" "I") (by decide +kernel)
  have in4 : ∀ w ∈ u_ws RX3 TX3 12, w ∈ wsX3_apply := by decide +kernel
  have hW : Wd D S0 (MW cs b w (th) sg Z) s.heap := hW
  have hS0 : S0 ≤ s.heap.size := hW.2.2
  have hS : va_S (SA S0) s.heap s.heap [] := va_S.rf
  have hl := lv_entry ([.ref (b 0), .int (nI j9), .int (nI v9)]) (n := 3) (Nat.le_of_ble_eq_true rfl)
  rw [lg_entry_eq]
  generalize (lg_sl ([.ref (b 0), .int (nI j9), .int (nI v9)]) ++ List.replicate (3 - (lg_sl ([.ref (b 0), .int (nI j9), .int (nI v9)])).length) Slot.unset).toArray = ls at hl ⊢
  have hl : lv_has ls 3 [(0, .ref (b 0)), (1, .int (nI j9)), (2, .int (nI v9))] := hl
  have hok := hF.2.2.2.2.2
  have hbl := hok.1.1
  have hnv := hok.2.1.1
  have hnp := hok.2.2.1.1
  have hnh := hok.2.2.2.2.1
  have hji := vI_in hj (show sg.2.2.1.length < 2 ^ 30 by omega)
  have hvi := vI_in hv9 (show sg.2.1.length < 2 ^ 30 by omega)
  refine lv_aload_n hx hb dX3_apply_0 rfl (lv_at hl 0 rfl) ?_
  refine lv_iconst (v := nI 0) hx hb dX3_apply_1 (by decide) ?_
  refine z_put (ty := .int) (ci := 4) (v := .int (nI 0)) (C := RX3) (T := TX3) (N := 12) hx hb hts in4 tyX3 tyX3_ok nmX3 hown hK hW hS 0 rfl rfl 0 (by decide) fl33 (fun _ h9 => h9) rfl (by decide +kernel) rfl rfl (Nat.le_of_ble_eq_true rfl) dX3_apply_2 (fun H locs hW hS => ?_)
  have hW : Wd D S0 (((b 0), .inr (4, [.int (nI 0), .int (nI sg.1.length), .ref (b 1), .int (nI sg.2.1.length), .ref (b 2), .int (nI sg.2.2.1.length), .ref (b 3), .ref (b 4), .ref (b 5), .ref (mI w), .int (nI sg.2.2.2.2.length), .ref (b 6)])) :: ((b 1), fa cs 400 (mf w)) :: ((b 2), qa cs 2 12 (mg w 0)) :: ((b 3), qa cs 2 12 (mg w 1)) :: ((b 4), qa cs 2 12 (mg w 2)) :: ((b 5), qa cs 2 12 (mg w 3)) :: ((b 6), qa cs 2 20 (mg w 4)) :: Z) H := hW
  refine lv_aload_n hx hb dX3_apply_5 rfl (lv_at hl 0 rfl) ?_
  refine lv_iload_n hx hb dX3_apply_6 rfl (lv_at hl 1 rfl) ?_
  refine z_csV (As := [.int (nI j9)]) (rest := []) ⟨hx, hb, hml, hown, hts⟩ (c_X3_isPatch l D cs (b 0) [.int (nI 0), .int (nI sg.1.length), .ref (b 1), .int (nI sg.2.1.length), .ref (b 2), .int (nI sg.2.2.1.length), .ref (b 3), .ref (b 4), .ref (b 5), .ref (mI w), .int (nI sg.2.2.2.2.length), .ref (b 6)] (nI j9) sg.2.2.1.length rfl) (cwV 1 hts gX3_apply_X3_isPatch rfl rfl rfl (by decide +kernel) ⟨Nat.le_of_ble_eq_true rfl, Nat.le_of_ble_eq_true rfl⟩) (hW.1 0 _ rfl) rfl (hW.1 0 _ rfl) hK rfl hl.1 rfl (Nat.le_of_ble_eq_true rfl) dX3_apply_7 ⟨(by rw [hRc]; omega), (by rw [hRs]; omega)⟩ (fun r hq9 => ?_)
  have hq9 : r = bI (vI (nI j9) sg.2.2.1.length) := hq9
  subst hq9
  refine z_ifb_eq (tgt := 21) hx hb dX3_apply_10 (by decide) (fun h9 => absurd (h9.symm.trans hji) (by decide)) (fun _ => ?_)
  refine lv_aload_n hx hb dX3_apply_13 rfl (lv_at hl 0 rfl) ?_
  refine lv_iload_n hx hb dX3_apply_14 rfl (lv_at hl 2 rfl) ?_
  refine z_csV (As := [.int (nI v9)]) (rest := []) ⟨hx, hb, hml, hown, hts⟩ (c_X3_isVersion l D cs (b 0) [.int (nI 0), .int (nI sg.1.length), .ref (b 1), .int (nI sg.2.1.length), .ref (b 2), .int (nI sg.2.2.1.length), .ref (b 3), .ref (b 4), .ref (b 5), .ref (mI w), .int (nI sg.2.2.2.2.length), .ref (b 6)] (nI v9) sg.2.1.length rfl) (cwV 1 hts gX3_apply_X3_isVersion rfl rfl rfl (by decide +kernel) ⟨Nat.le_of_ble_eq_true rfl, Nat.le_of_ble_eq_true rfl⟩) (hW.1 0 _ rfl) rfl (hW.1 0 _ rfl) hK rfl hl.1 rfl (Nat.le_of_ble_eq_true rfl) dX3_apply_15 ⟨(by rw [hRc]; omega), (by rw [hRs]; omega)⟩ (fun r hq9 => ?_)
  have hq9 : r = bI (vI (nI v9) sg.2.1.length) := hq9
  subst hq9
  refine z_ifb_ne (tgt := 27) hx hb dX3_apply_18 (by decide) (fun _ => ?_) (fun h9 => absurd (h9.symm.trans hvi) (by decide))
  refine lv_aload_n hx hb dX3_apply_27 rfl (lv_at hl 0 rfl) ?_
  refine z_get (ci := 4) (v := .ref (b 2)) (C := RX3) (T := TX3) (N := 12) hx hb hts in4 hown hK (hW.1 0 _ rfl) rfl 4 (by decide) fl14 (fun _ h9 => h9) rfl dX3_apply_28 ?_
  refine lv_iload_n hx hb dX3_apply_31 rfl (lv_at hl 2 rfl) ?_
  refine z_aald (k := v9) (y := (mA w 0 v9)) (t0 := 2) hx hb hK (hW.1 2 _ rfl) rfl rfl (by omega) (by omega) (hF.2.1 v9 hv9).1 dX3_apply_32 ?_
  refine lv_aload_n hx hb dX3_apply_33 rfl (lv_at hl 0 rfl) ?_
  refine z_get (ci := 4) (v := .ref (b 3)) (C := RX3) (T := TX3) (N := 12) hx hb hts in4 hown hK (hW.1 0 _ rfl) rfl 6 (by decide) fl18 (fun _ h9 => h9) rfl dX3_apply_34 ?_
  refine lv_iload_n hx hb dX3_apply_37 rfl (lv_at hl 1 rfl) ?_
  refine z_aald (k := j9) (y := (mA w 1 j9)) (t0 := 2) hx hb hK (hW.1 3 _ rfl) rfl rfl (by omega) (by omega) (hF.2.2.1 j9 hj).1.1 dX3_apply_38 ?_
  refine z_csS (As := [.ref (mA w 0 v9), .ref (mA w 1 j9)]) (rest := []) ⟨hx, hb, hml, hown, hts⟩ (c_X3_are l D cs (mA w 0 v9) (mA w 1 j9) ((vsN sg.2.1 v9).length) ((psN sg.2.2.1 j9).1.length) (bb (vsN sg.2.1 v9)) (bb (psN sg.2.2.1 j9).1) (by have := (hok.2.1.2 v9 hv9).1; omega) (by have := (hok.2.2.1.2 j9 hj).1.1; omega)) (va_cwS 2 hts gX3_apply_X3_are rfl rfl rfl (by decide +kernel) ⟨Nat.le_of_ble_eq_true rfl, Nat.le_of_ble_eq_true rfl⟩) ⟨(hW.mem (List.mem_cons_of_mem _ (List.mem_cons_of_mem _ (List.mem_cons_of_mem _ (List.mem_cons_of_mem _ (List.mem_cons_of_mem _ (List.mem_cons_of_mem _ (List.mem_cons_of_mem _ (hF.2.1 v9 hv9).2)))))))), (hW.mem (List.mem_cons_of_mem _ (List.mem_cons_of_mem _ (List.mem_cons_of_mem _ (List.mem_cons_of_mem _ (List.mem_cons_of_mem _ (List.mem_cons_of_mem _ (List.mem_cons_of_mem _ (hF.2.2.1 j9 hj).1.2))))))))⟩ hK rfl hl.1 rfl (Nat.le_of_ble_eq_true rfl) dX3_apply_39 ⟨(by rw [hRc]; omega), (by rw [hRs]; omega)⟩ (fun r hq9 => ?_)
  have hq9 : r = bI (eqL (vsN sg.2.1 v9) (psN sg.2.2.1 j9).1) := hq9
  subst hq9
  refine z_ifb_ne (tgt := 51) hx hb dX3_apply_42 (by decide) (fun _ => ?_) (fun h9 => absurd (h9.symm.trans hee) (by decide))
  refine lv_aload_n hx hb dX3_apply_51 rfl (lv_at hl 0 rfl) ?_
  refine z_get (ci := 4) (v := .int (nI sg.2.1.length)) (C := RX3) (T := TX3) (N := 12) hx hb hts in4 hown hK (hW.1 0 _ rfl) rfl 3 (by decide) fl37 (fun _ h9 => h9) rfl dX3_apply_52 ?_
  refine lv_bipush (v := nI 12) hx hb dX3_apply_55 (by decide) ?_
  refine z_icmp_ne (tgt := 68) hx hb (by omega) (by omega) dX3_apply_57 (by decide) (fun hc57 => ?_) (fun hc57 => ?_)
  · skip
    have hc57 : ¬ sg.2.1.length = 12 := hc57
    omega
  · skip
    have hc57 : sg.2.1.length = 12 := hc57
    refine lv_aload_n hx hb dX3_apply_60 rfl (lv_at hl 0 rfl) ?_
    refine lv_iconst (v := nI 3) hx hb dX3_apply_61 (by decide) ?_
    refine z_cmI (va_runV (As := [.int (nI 3)]) (rest := []) ⟨hx, hb, hml, hown, hts⟩ (c_X3_fail l D cs S0 Z b w (nI 0) (nI 3) sg) (cwV 1 hts gX3_apply_X3_fail rfl rfl rfl (by decide +kernel) ⟨Nat.le_of_ble_eq_true rfl, Nat.le_of_ble_eq_true rfl⟩) ⟨zP_blind, z_recv hK (hW.1 0 _ rfl) rfl, (zP_pre hW hK)⟩ rfl rfl hl.1 rfl (lv_room (Nat.le_of_ble_eq_true rfl)) dX3_apply_62 ⟨(by rw [hRc]; omega), (by rw [hRs]; omega)⟩) hS (fun r u8 H locs hu hW hS => ?_)
    rw [hu]
    have hW : Wd D S0 (((b 0), .inr (4, [.int (nI 3), .int (nI sg.1.length), .ref (b 1), .int (nI sg.2.1.length), .ref (b 2), .int (nI sg.2.2.1.length), .ref (b 3), .ref (b 4), .ref (b 5), .ref (mI w), .int (nI sg.2.2.2.2.length), .ref (b 6)])) :: ((b 1), fa cs 400 (mf w)) :: ((b 2), qa cs 2 12 (mg w 0)) :: ((b 3), qa cs 2 12 (mg w 1)) :: ((b 4), qa cs 2 12 (mg w 2)) :: ((b 5), qa cs 2 12 (mg w 3)) :: ((b 6), qa cs 2 20 (mg w 4)) :: Z) H := hW
    refine lv_goto (tgt := 78) hx hb dX3_apply_65 (by decide) ?_
    refine W.widen (k := 0) (n := 0) (by omega) (by omega) ?_
    exact W.iret (v := nI 0) hx hb hr (fun t ht hW9 => ⟨⟨_, (w, []), rfl, ⟨fun h9 => absurd h9 (by decide), hF⟩, (by show Wd D S0 _ _; rw [ht]; exact hW)⟩, hS.F ht⟩) (fun q9 h9 => hS.2.2 q9 h9) dX3_apply_78

set_option maxHeartbeats 4000000 in
set_option maxRecDepth 100000 in
theorem c_X3_apply (l : Launch) (D : va_G) (cs : Nat → ClassId) (S0 : Nat) (Z : va_W) (b : Nat → Nat) (w : MU) (sg : St) (hF : MF cs w sg Z) (th : Int32) (j9 : Nat) (hj : j9 < sg.2.2.1.length) (v9 : Nat) (hv9 : v9 < sg.2.1.length) (hee : eqL (vsN sg.2.1 v9) (psN sg.2.2.1 j9).1 = true) (hroom : sg.2.1.length < 12)  : Met l yX3_apply wsX3_apply ({ frames := 2, cells := 0, slots := 0, locals := 43 }) (zM [.ref (b 0), .int (nI j9), .int (nI v9)] (fun H => Wd D S0 (MW cs b w (th) sg Z) H) D cs) (va_Qi (fun r (v : MU × va_W) => ((0 : Nat) = 0 → r = nI sg.2.1.length) ∧ MF cs v.1 (stV sg (psN sg.2.2.1 j9).2.1) (v.2 ++ Z)) (fun v t => Wd D S0 (MW cs b v.1 (nI 0) (stV sg (psN sg.2.2.1 j9).2.1) (v.2 ++ Z)) t.heap) (SA S0)) 0 0 (SA S0) := by
  refine Met.ofW (cc := cX3_apply) (maxL := 3) (ret := (some .int)) (by decide) rfl ?_
  intro p e s m args below meth c s₁ B hml hv
  obtain ⟨rfl, hW, hK, hA9⟩ := hv
  have hx := B.exec
  have hb := B.bytes
  have hr := B.returns
  have hts := atoms_spec (ws := wsX3_apply) B.pre
  have hown : s.vm.findClass RX3 = some m.cls := findClass_of_methodNamed B.named
  have hlocks := B.notSynchronized
  have hRc : (headSpec wsX3_apply ({ frames := 2, cells := 0, slots := 0, locals := 43 })).room.cells = 0 := rfl
  have hRs : (headSpec wsX3_apply ({ frames := 2, cells := 0, slots := 0, locals := 43 })).room.slots = 0 := rfl
  have fl14 := hts (.fieldLink RX3 14 "DeltaUpdaterModel" "rows" "[[I") (by decide +kernel)
  have fl18 := hts (.fieldLink RX3 18 "DeltaUpdaterModel" "bases" "[[I") (by decide +kernel)
  have fl21 := hts (.fieldLink RX3 21 "DeltaUpdaterModel" "goals" "[[I") (by decide +kernel)
  have fl33 := hts (.fieldLink RX3 33 "DeltaUpdaterModel" "thrown" "I") (by decide +kernel)
  have fl37 := hts (.fieldLink RX3 37 "DeltaUpdaterModel" "versions" "I") (by decide +kernel)
  have in4 : ∀ w ∈ u_ws RX3 TX3 12, w ∈ wsX3_apply := by decide +kernel
  have hW : Wd D S0 (MW cs b w (th) sg Z) s.heap := hW
  have hS0 : S0 ≤ s.heap.size := hW.2.2
  have hS : va_S (SA S0) s.heap s.heap [] := va_S.rf
  have hl := lv_entry ([.ref (b 0), .int (nI j9), .int (nI v9)]) (n := 3) (Nat.le_of_ble_eq_true rfl)
  rw [lg_entry_eq]
  generalize (lg_sl ([.ref (b 0), .int (nI j9), .int (nI v9)]) ++ List.replicate (3 - (lg_sl ([.ref (b 0), .int (nI j9), .int (nI v9)])).length) Slot.unset).toArray = ls at hl ⊢
  have hl : lv_has ls 3 [(0, .ref (b 0)), (1, .int (nI j9)), (2, .int (nI v9))] := hl
  have hok := hF.2.2.2.2.2
  have hbl := hok.1.1
  have hnv := hok.2.1.1
  have hnp := hok.2.2.1.1
  have hnh := hok.2.2.2.2.1
  have hji := vI_in hj (show sg.2.2.1.length < 2 ^ 30 by omega)
  have hvi := vI_in hv9 (show sg.2.1.length < 2 ^ 30 by omega)
  refine lv_aload_n hx hb dX3_apply_0 rfl (lv_at hl 0 rfl) ?_
  refine lv_iconst (v := nI 0) hx hb dX3_apply_1 (by decide) ?_
  refine z_put (ty := .int) (ci := 4) (v := .int (nI 0)) (C := RX3) (T := TX3) (N := 12) hx hb hts in4 tyX3 tyX3_ok nmX3 hown hK hW hS 0 rfl rfl 0 (by decide) fl33 (fun _ h9 => h9) rfl (by decide +kernel) rfl rfl (Nat.le_of_ble_eq_true rfl) dX3_apply_2 (fun H locs hW hS => ?_)
  have hW : Wd D S0 (((b 0), .inr (4, [.int (nI 0), .int (nI sg.1.length), .ref (b 1), .int (nI sg.2.1.length), .ref (b 2), .int (nI sg.2.2.1.length), .ref (b 3), .ref (b 4), .ref (b 5), .ref (mI w), .int (nI sg.2.2.2.2.length), .ref (b 6)])) :: ((b 1), fa cs 400 (mf w)) :: ((b 2), qa cs 2 12 (mg w 0)) :: ((b 3), qa cs 2 12 (mg w 1)) :: ((b 4), qa cs 2 12 (mg w 2)) :: ((b 5), qa cs 2 12 (mg w 3)) :: ((b 6), qa cs 2 20 (mg w 4)) :: Z) H := hW
  refine lv_aload_n hx hb dX3_apply_5 rfl (lv_at hl 0 rfl) ?_
  refine lv_iload_n hx hb dX3_apply_6 rfl (lv_at hl 1 rfl) ?_
  refine z_csV (As := [.int (nI j9)]) (rest := []) ⟨hx, hb, hml, hown, hts⟩ (c_X3_isPatch l D cs (b 0) [.int (nI 0), .int (nI sg.1.length), .ref (b 1), .int (nI sg.2.1.length), .ref (b 2), .int (nI sg.2.2.1.length), .ref (b 3), .ref (b 4), .ref (b 5), .ref (mI w), .int (nI sg.2.2.2.2.length), .ref (b 6)] (nI j9) sg.2.2.1.length rfl) (cwV 1 hts gX3_apply_X3_isPatch rfl rfl rfl (by decide +kernel) ⟨Nat.le_of_ble_eq_true rfl, Nat.le_of_ble_eq_true rfl⟩) (hW.1 0 _ rfl) rfl (hW.1 0 _ rfl) hK rfl hl.1 rfl (Nat.le_of_ble_eq_true rfl) dX3_apply_7 ⟨(by rw [hRc]; omega), (by rw [hRs]; omega)⟩ (fun r hq9 => ?_)
  have hq9 : r = bI (vI (nI j9) sg.2.2.1.length) := hq9
  subst hq9
  refine z_ifb_eq (tgt := 21) hx hb dX3_apply_10 (by decide) (fun h9 => absurd (h9.symm.trans hji) (by decide)) (fun _ => ?_)
  refine lv_aload_n hx hb dX3_apply_13 rfl (lv_at hl 0 rfl) ?_
  refine lv_iload_n hx hb dX3_apply_14 rfl (lv_at hl 2 rfl) ?_
  refine z_csV (As := [.int (nI v9)]) (rest := []) ⟨hx, hb, hml, hown, hts⟩ (c_X3_isVersion l D cs (b 0) [.int (nI 0), .int (nI sg.1.length), .ref (b 1), .int (nI sg.2.1.length), .ref (b 2), .int (nI sg.2.2.1.length), .ref (b 3), .ref (b 4), .ref (b 5), .ref (mI w), .int (nI sg.2.2.2.2.length), .ref (b 6)] (nI v9) sg.2.1.length rfl) (cwV 1 hts gX3_apply_X3_isVersion rfl rfl rfl (by decide +kernel) ⟨Nat.le_of_ble_eq_true rfl, Nat.le_of_ble_eq_true rfl⟩) (hW.1 0 _ rfl) rfl (hW.1 0 _ rfl) hK rfl hl.1 rfl (Nat.le_of_ble_eq_true rfl) dX3_apply_15 ⟨(by rw [hRc]; omega), (by rw [hRs]; omega)⟩ (fun r hq9 => ?_)
  have hq9 : r = bI (vI (nI v9) sg.2.1.length) := hq9
  subst hq9
  refine z_ifb_ne (tgt := 27) hx hb dX3_apply_18 (by decide) (fun _ => ?_) (fun h9 => absurd (h9.symm.trans hvi) (by decide))
  refine lv_aload_n hx hb dX3_apply_27 rfl (lv_at hl 0 rfl) ?_
  refine z_get (ci := 4) (v := .ref (b 2)) (C := RX3) (T := TX3) (N := 12) hx hb hts in4 hown hK (hW.1 0 _ rfl) rfl 4 (by decide) fl14 (fun _ h9 => h9) rfl dX3_apply_28 ?_
  refine lv_iload_n hx hb dX3_apply_31 rfl (lv_at hl 2 rfl) ?_
  refine z_aald (k := v9) (y := (mA w 0 v9)) (t0 := 2) hx hb hK (hW.1 2 _ rfl) rfl rfl (by omega) (by omega) (hF.2.1 v9 hv9).1 dX3_apply_32 ?_
  refine lv_aload_n hx hb dX3_apply_33 rfl (lv_at hl 0 rfl) ?_
  refine z_get (ci := 4) (v := .ref (b 3)) (C := RX3) (T := TX3) (N := 12) hx hb hts in4 hown hK (hW.1 0 _ rfl) rfl 6 (by decide) fl18 (fun _ h9 => h9) rfl dX3_apply_34 ?_
  refine lv_iload_n hx hb dX3_apply_37 rfl (lv_at hl 1 rfl) ?_
  refine z_aald (k := j9) (y := (mA w 1 j9)) (t0 := 2) hx hb hK (hW.1 3 _ rfl) rfl rfl (by omega) (by omega) (hF.2.2.1 j9 hj).1.1 dX3_apply_38 ?_
  refine z_csS (As := [.ref (mA w 0 v9), .ref (mA w 1 j9)]) (rest := []) ⟨hx, hb, hml, hown, hts⟩ (c_X3_are l D cs (mA w 0 v9) (mA w 1 j9) ((vsN sg.2.1 v9).length) ((psN sg.2.2.1 j9).1.length) (bb (vsN sg.2.1 v9)) (bb (psN sg.2.2.1 j9).1) (by have := (hok.2.1.2 v9 hv9).1; omega) (by have := (hok.2.2.1.2 j9 hj).1.1; omega)) (va_cwS 2 hts gX3_apply_X3_are rfl rfl rfl (by decide +kernel) ⟨Nat.le_of_ble_eq_true rfl, Nat.le_of_ble_eq_true rfl⟩) ⟨(hW.mem (List.mem_cons_of_mem _ (List.mem_cons_of_mem _ (List.mem_cons_of_mem _ (List.mem_cons_of_mem _ (List.mem_cons_of_mem _ (List.mem_cons_of_mem _ (List.mem_cons_of_mem _ (hF.2.1 v9 hv9).2)))))))), (hW.mem (List.mem_cons_of_mem _ (List.mem_cons_of_mem _ (List.mem_cons_of_mem _ (List.mem_cons_of_mem _ (List.mem_cons_of_mem _ (List.mem_cons_of_mem _ (List.mem_cons_of_mem _ (hF.2.2.1 j9 hj).1.2))))))))⟩ hK rfl hl.1 rfl (Nat.le_of_ble_eq_true rfl) dX3_apply_39 ⟨(by rw [hRc]; omega), (by rw [hRs]; omega)⟩ (fun r hq9 => ?_)
  have hq9 : r = bI (eqL (vsN sg.2.1 v9) (psN sg.2.2.1 j9).1) := hq9
  subst hq9
  refine z_ifb_ne (tgt := 51) hx hb dX3_apply_42 (by decide) (fun _ => ?_) (fun h9 => absurd (h9.symm.trans hee) (by decide))
  refine lv_aload_n hx hb dX3_apply_51 rfl (lv_at hl 0 rfl) ?_
  refine z_get (ci := 4) (v := .int (nI sg.2.1.length)) (C := RX3) (T := TX3) (N := 12) hx hb hts in4 hown hK (hW.1 0 _ rfl) rfl 3 (by decide) fl37 (fun _ h9 => h9) rfl dX3_apply_52 ?_
  refine lv_bipush (v := nI 12) hx hb dX3_apply_55 (by decide) ?_
  refine z_icmp_ne (tgt := 68) hx hb (by omega) (by omega) dX3_apply_57 (by decide) (fun hc57 => ?_) (fun hc57 => ?_)
  · skip
    have hc57 : ¬ sg.2.1.length = 12 := hc57
    refine lv_aload_n hx hb dX3_apply_68 rfl (lv_at hl 0 rfl) ?_
    refine lv_aload_n hx hb dX3_apply_69 rfl (lv_at hl 0 rfl) ?_
    refine z_get (ci := 4) (v := .ref (b 4)) (C := RX3) (T := TX3) (N := 12) hx hb hts in4 hown hK (hW.1 0 _ rfl) rfl 7 (by decide) fl21 (fun _ h9 => h9) rfl dX3_apply_70 ?_
    refine lv_iload_n hx hb dX3_apply_73 rfl (lv_at hl 1 rfl) ?_
    refine z_aald (k := j9) (y := (mA w 2 j9)) (t0 := 2) hx hb hK (hW.1 4 _ rfl) rfl rfl (by omega) (by omega) (hF.2.2.1 j9 hj).2.1.1 dX3_apply_74 ?_
    refine z_cmI (va_runV (As := [.ref (mA w 2 j9)]) (rest := []) ⟨hx, hb, hml, hown, hts⟩ (c_X3_keep l D cs S0 Z b w sg hF (nI 0) (mA w 2 j9) (psN sg.2.2.1 j9).2.1 (hF.2.2.1 j9 hj).2.1.2 (hok.2.2.1.2 j9 hj).2.1 hroom) (cwV 1 hts gX3_apply_X3_keep rfl rfl rfl (by decide +kernel) ⟨Nat.le_of_ble_eq_true rfl, Nat.le_of_ble_eq_true rfl⟩) ⟨zM_blind, z_recv hK (hW.1 0 _ rfl) rfl, (zM_pre hW hK hA9)⟩ rfl rfl hl.1 rfl (lv_room (Nat.le_of_ble_eq_true rfl)) dX3_apply_75 ⟨(by rw [hRc]; omega), (by rw [hRs]; omega)⟩) hS (fun r u8 H locs hu hW hS => ?_)
    rw [hu.1]
    refine W.widen (k := 0) (n := 0) (by omega) (by omega) ?_
    exact W.iret (v := nI sg.2.1.length) hx hb hr (fun t ht hW9 => ⟨⟨_, u8, rfl, ⟨fun _ => rfl, hu.2⟩, (by show Wd D S0 _ _; rw [ht]; exact hW)⟩, hS.F ht⟩) (fun q9 h9 => hS.2.2 q9 h9) dX3_apply_78
  · skip
    have hc57 : sg.2.1.length = 12 := hc57
    omega

set_option maxHeartbeats 4000000 in
set_option maxRecDepth 100000 in
theorem c_X3_installVersion_a (l : Launch) (D : va_G) (cs : Nat → ClassId) (S0 : Nat) (Z : va_W) (b : Nat → Nat) (w : MU) (sg : St) (hF : MF cs w sg Z) (th : Int32) (v : Int32) (hv : vI v sg.2.1.length = false)  : Met l yX3_installVersion wsX3_installVersion ({ frames := 2, cells := 0, slots := 0, locals := 43 }) (zM [.ref (b 0), .int v] (fun H => Wd D S0 (MW cs b w (th) sg Z) H) D cs) (va_Qi (fun r (v : MU × va_W) => ((1 : Nat) = 0 → r = nI 0) ∧ MF cs v.1 sg (v.2 ++ Z)) (fun v t => Wd D S0 (MW cs b v.1 (nI 1) sg (v.2 ++ Z)) t.heap) (SA S0)) 0 0 (SA S0) := by
  refine Met.ofW (cc := cX3_installVersion) (maxL := 2) (ret := (some .int)) (by decide) rfl ?_
  intro p e s m args below meth c s₁ B hml hv
  obtain ⟨rfl, hW, hK, hA9⟩ := hv
  have hx := B.exec
  have hb := B.bytes
  have hr := B.returns
  have hts := atoms_spec (ws := wsX3_installVersion) B.pre
  have hown : s.vm.findClass RX3 = some m.cls := findClass_of_methodNamed B.named
  have hlocks := B.notSynchronized
  have hRc : (headSpec wsX3_installVersion ({ frames := 2, cells := 0, slots := 0, locals := 43 })).room.cells = 0 := rfl
  have hRs : (headSpec wsX3_installVersion ({ frames := 2, cells := 0, slots := 0, locals := 43 })).room.slots = 0 := rfl
  have fl33 := hts (.fieldLink RX3 33 "DeltaUpdaterModel" "thrown" "I") (by decide +kernel)
  have in4 : ∀ w ∈ u_ws RX3 TX3 12, w ∈ wsX3_installVersion := by decide +kernel
  have hW : Wd D S0 (MW cs b w (th) sg Z) s.heap := hW
  have hS0 : S0 ≤ s.heap.size := hW.2.2
  have hS : va_S (SA S0) s.heap s.heap [] := va_S.rf
  have hl := lv_entry ([.ref (b 0), .int v]) (n := 2) (Nat.le_of_ble_eq_true rfl)
  rw [lg_entry_eq]
  generalize (lg_sl ([.ref (b 0), .int v]) ++ List.replicate (2 - (lg_sl ([.ref (b 0), .int v])).length) Slot.unset).toArray = ls at hl ⊢
  have hl : lv_has ls 2 [(0, .ref (b 0)), (1, .int v)] := hl
  have hok := hF.2.2.2.2.2
  have hbl := hok.1.1
  have hnv := hok.2.1.1
  have hnp := hok.2.2.1.1
  have hnh := hok.2.2.2.2.1
  refine lv_aload_n hx hb dX3_installVersion_0 rfl (lv_at hl 0 rfl) ?_
  refine lv_iconst (v := nI 0) hx hb dX3_installVersion_1 (by decide) ?_
  refine z_put (ty := .int) (ci := 4) (v := .int (nI 0)) (C := RX3) (T := TX3) (N := 12) hx hb hts in4 tyX3 tyX3_ok nmX3 hown hK hW hS 0 rfl rfl 0 (by decide) fl33 (fun _ h9 => h9) rfl (by decide +kernel) rfl rfl (Nat.le_of_ble_eq_true rfl) dX3_installVersion_2 (fun H locs hW hS => ?_)
  have hW : Wd D S0 (((b 0), .inr (4, [.int (nI 0), .int (nI sg.1.length), .ref (b 1), .int (nI sg.2.1.length), .ref (b 2), .int (nI sg.2.2.1.length), .ref (b 3), .ref (b 4), .ref (b 5), .ref (mI w), .int (nI sg.2.2.2.2.length), .ref (b 6)])) :: ((b 1), fa cs 400 (mf w)) :: ((b 2), qa cs 2 12 (mg w 0)) :: ((b 3), qa cs 2 12 (mg w 1)) :: ((b 4), qa cs 2 12 (mg w 2)) :: ((b 5), qa cs 2 12 (mg w 3)) :: ((b 6), qa cs 2 20 (mg w 4)) :: Z) H := hW
  refine lv_aload_n hx hb dX3_installVersion_5 rfl (lv_at hl 0 rfl) ?_
  refine lv_iload_n hx hb dX3_installVersion_6 rfl (lv_at hl 1 rfl) ?_
  refine z_csV (As := [.int v]) (rest := []) ⟨hx, hb, hml, hown, hts⟩ (c_X3_isVersion l D cs (b 0) [.int (nI 0), .int (nI sg.1.length), .ref (b 1), .int (nI sg.2.1.length), .ref (b 2), .int (nI sg.2.2.1.length), .ref (b 3), .ref (b 4), .ref (b 5), .ref (mI w), .int (nI sg.2.2.2.2.length), .ref (b 6)] v sg.2.1.length rfl) (cwV 1 hts gX3_installVersion_X3_isVersion rfl rfl rfl (by decide +kernel) ⟨Nat.le_of_ble_eq_true rfl, Nat.le_of_ble_eq_true rfl⟩) (hW.1 0 _ rfl) rfl (hW.1 0 _ rfl) hK rfl hl.1 rfl (Nat.le_of_ble_eq_true rfl) dX3_installVersion_7 ⟨(by rw [hRc]; omega), (by rw [hRs]; omega)⟩ (fun r hq9 => ?_)
  have hq9 : r = bI (vI v sg.2.1.length) := hq9
  subst hq9
  refine z_ifb_eq (tgt := 26) hx hb dX3_installVersion_10 (by decide) (fun _ => ?_) (fun h9 => absurd (h9.symm.trans hv) (by decide))
  refine lv_aload_n hx hb dX3_installVersion_26 rfl (lv_at hl 0 rfl) ?_
  refine lv_iconst (v := nI 1) hx hb dX3_installVersion_27 (by decide) ?_
  refine z_cmI (va_runV (As := [.int (nI 1)]) (rest := []) ⟨hx, hb, hml, hown, hts⟩ (c_X3_fail l D cs S0 Z b w (nI 0) (nI 1) sg) (cwV 1 hts gX3_installVersion_X3_fail rfl rfl rfl (by decide +kernel) ⟨Nat.le_of_ble_eq_true rfl, Nat.le_of_ble_eq_true rfl⟩) ⟨zP_blind, z_recv hK (hW.1 0 _ rfl) rfl, (zP_pre hW hK)⟩ rfl rfl hl.1 rfl (lv_room (Nat.le_of_ble_eq_true rfl)) dX3_installVersion_28 ⟨(by rw [hRc]; omega), (by rw [hRs]; omega)⟩) hS (fun r u8 H locs hu hW hS => ?_)
  rw [hu]
  have hW : Wd D S0 (((b 0), .inr (4, [.int (nI 1), .int (nI sg.1.length), .ref (b 1), .int (nI sg.2.1.length), .ref (b 2), .int (nI sg.2.2.1.length), .ref (b 3), .ref (b 4), .ref (b 5), .ref (mI w), .int (nI sg.2.2.2.2.length), .ref (b 6)])) :: ((b 1), fa cs 400 (mf w)) :: ((b 2), qa cs 2 12 (mg w 0)) :: ((b 3), qa cs 2 12 (mg w 1)) :: ((b 4), qa cs 2 12 (mg w 2)) :: ((b 5), qa cs 2 12 (mg w 3)) :: ((b 6), qa cs 2 20 (mg w 4)) :: Z) H := hW
  refine W.widen (k := 0) (n := 0) (by omega) (by omega) ?_
  exact W.iret (v := nI 0) hx hb hr (fun t ht hW9 => ⟨⟨_, (w, []), rfl, ⟨fun h9 => absurd h9 (by decide), hF⟩, (by show Wd D S0 _ _; rw [ht]; exact hW)⟩, hS.F ht⟩) (fun q9 h9 => hS.2.2 q9 h9) dX3_installVersion_31

set_option maxHeartbeats 4000000 in
set_option maxRecDepth 100000 in
theorem c_X3_installVersion (l : Launch) (D : va_G) (cs : Nat → ClassId) (S0 : Nat) (Z : va_W) (b : Nat → Nat) (w : MU) (sg : St) (hF : MF cs w sg Z) (th : Int32) (v9 : Nat) (hv9 : v9 < sg.2.1.length)  : Met l yX3_installVersion wsX3_installVersion ({ frames := 2, cells := 0, slots := 0, locals := 43 }) (zM [.ref (b 0), .int (nI v9)] (fun H => Wd D S0 (MW cs b w (th) sg Z) H) D cs) (va_Qi (fun r (v : MU × va_W) => ((0 : Nat) = 0 → r = nI (stI sg (vsN sg.2.1 v9)).2.2.2.2.length) ∧ MF cs v.1 (stI sg (vsN sg.2.1 v9)) (v.2 ++ Z)) (fun v t => Wd D S0 (MW cs b v.1 (nI 0) (stI sg (vsN sg.2.1 v9)) (v.2 ++ Z)) t.heap) (SA S0)) 0 0 (SA S0) := by
  refine Met.ofW (cc := cX3_installVersion) (maxL := 2) (ret := (some .int)) (by decide) rfl ?_
  intro p e s m args below meth c s₁ B hml hv
  obtain ⟨rfl, hW, hK, hA9⟩ := hv
  have hx := B.exec
  have hb := B.bytes
  have hr := B.returns
  have hts := atoms_spec (ws := wsX3_installVersion) B.pre
  have hown : s.vm.findClass RX3 = some m.cls := findClass_of_methodNamed B.named
  have hlocks := B.notSynchronized
  have hRc : (headSpec wsX3_installVersion ({ frames := 2, cells := 0, slots := 0, locals := 43 })).room.cells = 0 := rfl
  have hRs : (headSpec wsX3_installVersion ({ frames := 2, cells := 0, slots := 0, locals := 43 })).room.slots = 0 := rfl
  have fl14 := hts (.fieldLink RX3 14 "DeltaUpdaterModel" "rows" "[[I") (by decide +kernel)
  have fl33 := hts (.fieldLink RX3 33 "DeltaUpdaterModel" "thrown" "I") (by decide +kernel)
  have in4 : ∀ w ∈ u_ws RX3 TX3 12, w ∈ wsX3_installVersion := by decide +kernel
  have hW : Wd D S0 (MW cs b w (th) sg Z) s.heap := hW
  have hS0 : S0 ≤ s.heap.size := hW.2.2
  have hS : va_S (SA S0) s.heap s.heap [] := va_S.rf
  have hl := lv_entry ([.ref (b 0), .int (nI v9)]) (n := 2) (Nat.le_of_ble_eq_true rfl)
  rw [lg_entry_eq]
  generalize (lg_sl ([.ref (b 0), .int (nI v9)]) ++ List.replicate (2 - (lg_sl ([.ref (b 0), .int (nI v9)])).length) Slot.unset).toArray = ls at hl ⊢
  have hl : lv_has ls 2 [(0, .ref (b 0)), (1, .int (nI v9))] := hl
  have hok := hF.2.2.2.2.2
  have hbl := hok.1.1
  have hnv := hok.2.1.1
  have hnp := hok.2.2.1.1
  have hnh := hok.2.2.2.2.1
  have hvi := vI_in hv9 (show sg.2.1.length < 2 ^ 30 by omega)
  refine lv_aload_n hx hb dX3_installVersion_0 rfl (lv_at hl 0 rfl) ?_
  refine lv_iconst (v := nI 0) hx hb dX3_installVersion_1 (by decide) ?_
  refine z_put (ty := .int) (ci := 4) (v := .int (nI 0)) (C := RX3) (T := TX3) (N := 12) hx hb hts in4 tyX3 tyX3_ok nmX3 hown hK hW hS 0 rfl rfl 0 (by decide) fl33 (fun _ h9 => h9) rfl (by decide +kernel) rfl rfl (Nat.le_of_ble_eq_true rfl) dX3_installVersion_2 (fun H locs hW hS => ?_)
  have hW : Wd D S0 (((b 0), .inr (4, [.int (nI 0), .int (nI sg.1.length), .ref (b 1), .int (nI sg.2.1.length), .ref (b 2), .int (nI sg.2.2.1.length), .ref (b 3), .ref (b 4), .ref (b 5), .ref (mI w), .int (nI sg.2.2.2.2.length), .ref (b 6)])) :: ((b 1), fa cs 400 (mf w)) :: ((b 2), qa cs 2 12 (mg w 0)) :: ((b 3), qa cs 2 12 (mg w 1)) :: ((b 4), qa cs 2 12 (mg w 2)) :: ((b 5), qa cs 2 12 (mg w 3)) :: ((b 6), qa cs 2 20 (mg w 4)) :: Z) H := hW
  refine lv_aload_n hx hb dX3_installVersion_5 rfl (lv_at hl 0 rfl) ?_
  refine lv_iload_n hx hb dX3_installVersion_6 rfl (lv_at hl 1 rfl) ?_
  refine z_csV (As := [.int (nI v9)]) (rest := []) ⟨hx, hb, hml, hown, hts⟩ (c_X3_isVersion l D cs (b 0) [.int (nI 0), .int (nI sg.1.length), .ref (b 1), .int (nI sg.2.1.length), .ref (b 2), .int (nI sg.2.2.1.length), .ref (b 3), .ref (b 4), .ref (b 5), .ref (mI w), .int (nI sg.2.2.2.2.length), .ref (b 6)] (nI v9) sg.2.1.length rfl) (cwV 1 hts gX3_installVersion_X3_isVersion rfl rfl rfl (by decide +kernel) ⟨Nat.le_of_ble_eq_true rfl, Nat.le_of_ble_eq_true rfl⟩) (hW.1 0 _ rfl) rfl (hW.1 0 _ rfl) hK rfl hl.1 rfl (Nat.le_of_ble_eq_true rfl) dX3_installVersion_7 ⟨(by rw [hRc]; omega), (by rw [hRs]; omega)⟩ (fun r hq9 => ?_)
  have hq9 : r = bI (vI (nI v9) sg.2.1.length) := hq9
  subst hq9
  refine z_ifb_eq (tgt := 26) hx hb dX3_installVersion_10 (by decide) (fun h9 => absurd (h9.symm.trans hvi) (by decide)) (fun _ => ?_)
  refine lv_aload_n hx hb dX3_installVersion_13 rfl (lv_at hl 0 rfl) ?_
  refine lv_aload_n hx hb dX3_installVersion_14 rfl (lv_at hl 0 rfl) ?_
  refine z_get (ci := 4) (v := .ref (b 2)) (C := RX3) (T := TX3) (N := 12) hx hb hts in4 hown hK (hW.1 0 _ rfl) rfl 4 (by decide) fl14 (fun _ h9 => h9) rfl dX3_installVersion_15 ?_
  refine lv_iload_n hx hb dX3_installVersion_18 rfl (lv_at hl 1 rfl) ?_
  refine z_aald (k := v9) (y := (mA w 0 v9)) (t0 := 2) hx hb hK (hW.1 2 _ rfl) rfl rfl (by omega) (by omega) (hF.2.1 v9 hv9).1 dX3_installVersion_19 ?_
  refine z_cmI (va_runV (As := [.ref (mA w 0 v9)]) (rest := []) ⟨hx, hb, hml, hown, hts⟩ (c_X3_install l D cs S0 Z b w sg hF (nI 0) (mA w 0 v9) (vsN sg.2.1 v9) (hF.2.1 v9 hv9).2 (hok.2.1.2 v9 hv9)) (cwV 1 hts gX3_installVersion_X3_install rfl rfl rfl (by decide +kernel) ⟨Nat.le_of_ble_eq_true rfl, Nat.le_of_ble_eq_true rfl⟩) ⟨zM_blind, z_recv hK (hW.1 0 _ rfl) rfl, (zM_pre hW hK hA9)⟩ rfl rfl hl.1 rfl (lv_room (Nat.le_of_ble_eq_true rfl)) dX3_installVersion_20 ⟨(by rw [hRc]; omega), (by rw [hRs]; omega)⟩) hS (fun r u8 H locs hu hW hS => ?_)
  rw [hu.1]
  refine lv_goto (tgt := 31) hx hb dX3_installVersion_23 (by decide) ?_
  refine W.widen (k := 0) (n := 0) (by omega) (by omega) ?_
  exact W.iret (v := nI ((stI sg (vsN sg.2.1 v9)).2.2.2.2.length)) hx hb hr (fun t ht hW9 => ⟨⟨_, u8, rfl, ⟨fun _ => rfl, hu.2⟩, (by show Wd D S0 _ _; rw [ht]; exact hW)⟩, hS.F ht⟩) (fun q9 h9 => hS.2.2 q9 h9) dX3_installVersion_31

set_option maxHeartbeats 4000000 in
set_option maxRecDepth 100000 in
theorem c_X3_installPatch_a (l : Launch) (D : va_G) (cs : Nat → ClassId) (S0 : Nat) (Z : va_W) (b : Nat → Nat) (w : MU) (sg : St) (hF : MF cs w sg Z) (th : Int32) (v : Int32) (hv : vI v sg.2.2.1.length = false)  : Met l yX3_installPatch wsX3_installPatch ({ frames := 2, cells := 0, slots := 0, locals := 43 }) (zM [.ref (b 0), .int v] (fun H => Wd D S0 (MW cs b w (th) sg Z) H) D cs) (va_Qi (fun r (v : MU × va_W) => ((1 : Nat) = 0 → r = nI 0) ∧ MF cs v.1 sg (v.2 ++ Z)) (fun v t => Wd D S0 (MW cs b v.1 (nI 1) sg (v.2 ++ Z)) t.heap) (SA S0)) 0 0 (SA S0) := by
  refine Met.ofW (cc := cX3_installPatch) (maxL := 2) (ret := (some .int)) (by decide) rfl ?_
  intro p e s m args below meth c s₁ B hml hv
  obtain ⟨rfl, hW, hK, hA9⟩ := hv
  have hx := B.exec
  have hb := B.bytes
  have hr := B.returns
  have hts := atoms_spec (ws := wsX3_installPatch) B.pre
  have hown : s.vm.findClass RX3 = some m.cls := findClass_of_methodNamed B.named
  have hlocks := B.notSynchronized
  have hRc : (headSpec wsX3_installPatch ({ frames := 2, cells := 0, slots := 0, locals := 43 })).room.cells = 0 := rfl
  have hRs : (headSpec wsX3_installPatch ({ frames := 2, cells := 0, slots := 0, locals := 43 })).room.slots = 0 := rfl
  have fl33 := hts (.fieldLink RX3 33 "DeltaUpdaterModel" "thrown" "I") (by decide +kernel)
  have in4 : ∀ w ∈ u_ws RX3 TX3 12, w ∈ wsX3_installPatch := by decide +kernel
  have hW : Wd D S0 (MW cs b w (th) sg Z) s.heap := hW
  have hS0 : S0 ≤ s.heap.size := hW.2.2
  have hS : va_S (SA S0) s.heap s.heap [] := va_S.rf
  have hl := lv_entry ([.ref (b 0), .int v]) (n := 2) (Nat.le_of_ble_eq_true rfl)
  rw [lg_entry_eq]
  generalize (lg_sl ([.ref (b 0), .int v]) ++ List.replicate (2 - (lg_sl ([.ref (b 0), .int v])).length) Slot.unset).toArray = ls at hl ⊢
  have hl : lv_has ls 2 [(0, .ref (b 0)), (1, .int v)] := hl
  have hok := hF.2.2.2.2.2
  have hbl := hok.1.1
  have hnv := hok.2.1.1
  have hnp := hok.2.2.1.1
  have hnh := hok.2.2.2.2.1
  refine lv_aload_n hx hb dX3_installPatch_0 rfl (lv_at hl 0 rfl) ?_
  refine lv_iconst (v := nI 0) hx hb dX3_installPatch_1 (by decide) ?_
  refine z_put (ty := .int) (ci := 4) (v := .int (nI 0)) (C := RX3) (T := TX3) (N := 12) hx hb hts in4 tyX3 tyX3_ok nmX3 hown hK hW hS 0 rfl rfl 0 (by decide) fl33 (fun _ h9 => h9) rfl (by decide +kernel) rfl rfl (Nat.le_of_ble_eq_true rfl) dX3_installPatch_2 (fun H locs hW hS => ?_)
  have hW : Wd D S0 (((b 0), .inr (4, [.int (nI 0), .int (nI sg.1.length), .ref (b 1), .int (nI sg.2.1.length), .ref (b 2), .int (nI sg.2.2.1.length), .ref (b 3), .ref (b 4), .ref (b 5), .ref (mI w), .int (nI sg.2.2.2.2.length), .ref (b 6)])) :: ((b 1), fa cs 400 (mf w)) :: ((b 2), qa cs 2 12 (mg w 0)) :: ((b 3), qa cs 2 12 (mg w 1)) :: ((b 4), qa cs 2 12 (mg w 2)) :: ((b 5), qa cs 2 12 (mg w 3)) :: ((b 6), qa cs 2 20 (mg w 4)) :: Z) H := hW
  refine lv_aload_n hx hb dX3_installPatch_5 rfl (lv_at hl 0 rfl) ?_
  refine lv_iload_n hx hb dX3_installPatch_6 rfl (lv_at hl 1 rfl) ?_
  refine z_csV (As := [.int v]) (rest := []) ⟨hx, hb, hml, hown, hts⟩ (c_X3_isPatch l D cs (b 0) [.int (nI 0), .int (nI sg.1.length), .ref (b 1), .int (nI sg.2.1.length), .ref (b 2), .int (nI sg.2.2.1.length), .ref (b 3), .ref (b 4), .ref (b 5), .ref (mI w), .int (nI sg.2.2.2.2.length), .ref (b 6)] v sg.2.2.1.length rfl) (cwV 1 hts gX3_installPatch_X3_isPatch rfl rfl rfl (by decide +kernel) ⟨Nat.le_of_ble_eq_true rfl, Nat.le_of_ble_eq_true rfl⟩) (hW.1 0 _ rfl) rfl (hW.1 0 _ rfl) hK rfl hl.1 rfl (Nat.le_of_ble_eq_true rfl) dX3_installPatch_7 ⟨(by rw [hRc]; omega), (by rw [hRs]; omega)⟩ (fun r hq9 => ?_)
  have hq9 : r = bI (vI v sg.2.2.1.length) := hq9
  subst hq9
  refine z_ifb_ne (tgt := 19) hx hb dX3_installPatch_10 (by decide) (fun h9 => absurd (h9.symm.trans hv) (by decide)) (fun _ => ?_)
  refine lv_aload_n hx hb dX3_installPatch_13 rfl (lv_at hl 0 rfl) ?_
  refine lv_iconst (v := nI 1) hx hb dX3_installPatch_14 (by decide) ?_
  refine z_cmI (va_runV (As := [.int (nI 1)]) (rest := []) ⟨hx, hb, hml, hown, hts⟩ (c_X3_fail l D cs S0 Z b w (nI 0) (nI 1) sg) (cwV 1 hts gX3_installPatch_X3_fail rfl rfl rfl (by decide +kernel) ⟨Nat.le_of_ble_eq_true rfl, Nat.le_of_ble_eq_true rfl⟩) ⟨zP_blind, z_recv hK (hW.1 0 _ rfl) rfl, (zP_pre hW hK)⟩ rfl rfl hl.1 rfl (lv_room (Nat.le_of_ble_eq_true rfl)) dX3_installPatch_15 ⟨(by rw [hRc]; omega), (by rw [hRs]; omega)⟩) hS (fun r u8 H locs hu hW hS => ?_)
  rw [hu]
  have hW : Wd D S0 (((b 0), .inr (4, [.int (nI 1), .int (nI sg.1.length), .ref (b 1), .int (nI sg.2.1.length), .ref (b 2), .int (nI sg.2.2.1.length), .ref (b 3), .ref (b 4), .ref (b 5), .ref (mI w), .int (nI sg.2.2.2.2.length), .ref (b 6)])) :: ((b 1), fa cs 400 (mf w)) :: ((b 2), qa cs 2 12 (mg w 0)) :: ((b 3), qa cs 2 12 (mg w 1)) :: ((b 4), qa cs 2 12 (mg w 2)) :: ((b 5), qa cs 2 12 (mg w 3)) :: ((b 6), qa cs 2 20 (mg w 4)) :: Z) H := hW
  refine W.widen (k := 0) (n := 0) (by omega) (by omega) ?_
  exact W.iret (v := nI 0) hx hb hr (fun t ht hW9 => ⟨⟨_, (w, []), rfl, ⟨fun h9 => absurd h9 (by decide), hF⟩, (by show Wd D S0 _ _; rw [ht]; exact hW)⟩, hS.F ht⟩) (fun q9 h9 => hS.2.2 q9 h9) dX3_installPatch_18

set_option maxHeartbeats 4000000 in
set_option maxRecDepth 100000 in
theorem c_X3_installPatch_b (l : Launch) (D : va_G) (cs : Nat → ClassId) (S0 : Nat) (Z : va_W) (b : Nat → Nat) (w : MU) (sg : St) (hF : MF cs w sg Z) (th : Int32) (j9 : Nat) (hj : j9 < sg.2.2.1.length) (hne : eqL sg.2.2.2.1 (psN sg.2.2.1 j9).1 = false)  : Met l yX3_installPatch wsX3_installPatch ({ frames := 2, cells := 0, slots := 0, locals := 43 }) (zM [.ref (b 0), .int (nI j9)] (fun H => Wd D S0 (MW cs b w (th) sg Z) H) D cs) (va_Qi (fun r (v : MU × va_W) => ((2 : Nat) = 0 → r = nI 0) ∧ MF cs v.1 sg (v.2 ++ Z)) (fun v t => Wd D S0 (MW cs b v.1 (nI 2) sg (v.2 ++ Z)) t.heap) (SA S0)) 0 0 (SA S0) := by
  refine Met.ofW (cc := cX3_installPatch) (maxL := 2) (ret := (some .int)) (by decide) rfl ?_
  intro p e s m args below meth c s₁ B hml hv
  obtain ⟨rfl, hW, hK, hA9⟩ := hv
  have hx := B.exec
  have hb := B.bytes
  have hr := B.returns
  have hts := atoms_spec (ws := wsX3_installPatch) B.pre
  have hown : s.vm.findClass RX3 = some m.cls := findClass_of_methodNamed B.named
  have hlocks := B.notSynchronized
  have hRc : (headSpec wsX3_installPatch ({ frames := 2, cells := 0, slots := 0, locals := 43 })).room.cells = 0 := rfl
  have hRs : (headSpec wsX3_installPatch ({ frames := 2, cells := 0, slots := 0, locals := 43 })).room.slots = 0 := rfl
  have fl18 := hts (.fieldLink RX3 18 "DeltaUpdaterModel" "bases" "[[I") (by decide +kernel)
  have fl27 := hts (.fieldLink RX3 27 "DeltaUpdaterModel" "installed" "[I") (by decide +kernel)
  have fl33 := hts (.fieldLink RX3 33 "DeltaUpdaterModel" "thrown" "I") (by decide +kernel)
  have in4 : ∀ w ∈ u_ws RX3 TX3 12, w ∈ wsX3_installPatch := by decide +kernel
  have hW : Wd D S0 (MW cs b w (th) sg Z) s.heap := hW
  have hS0 : S0 ≤ s.heap.size := hW.2.2
  have hS : va_S (SA S0) s.heap s.heap [] := va_S.rf
  have hl := lv_entry ([.ref (b 0), .int (nI j9)]) (n := 2) (Nat.le_of_ble_eq_true rfl)
  rw [lg_entry_eq]
  generalize (lg_sl ([.ref (b 0), .int (nI j9)]) ++ List.replicate (2 - (lg_sl ([.ref (b 0), .int (nI j9)])).length) Slot.unset).toArray = ls at hl ⊢
  have hl : lv_has ls 2 [(0, .ref (b 0)), (1, .int (nI j9))] := hl
  have hok := hF.2.2.2.2.2
  have hbl := hok.1.1
  have hnv := hok.2.1.1
  have hnp := hok.2.2.1.1
  have hnh := hok.2.2.2.2.1
  have hji := vI_in hj (show sg.2.2.1.length < 2 ^ 30 by omega)
  refine lv_aload_n hx hb dX3_installPatch_0 rfl (lv_at hl 0 rfl) ?_
  refine lv_iconst (v := nI 0) hx hb dX3_installPatch_1 (by decide) ?_
  refine z_put (ty := .int) (ci := 4) (v := .int (nI 0)) (C := RX3) (T := TX3) (N := 12) hx hb hts in4 tyX3 tyX3_ok nmX3 hown hK hW hS 0 rfl rfl 0 (by decide) fl33 (fun _ h9 => h9) rfl (by decide +kernel) rfl rfl (Nat.le_of_ble_eq_true rfl) dX3_installPatch_2 (fun H locs hW hS => ?_)
  have hW : Wd D S0 (((b 0), .inr (4, [.int (nI 0), .int (nI sg.1.length), .ref (b 1), .int (nI sg.2.1.length), .ref (b 2), .int (nI sg.2.2.1.length), .ref (b 3), .ref (b 4), .ref (b 5), .ref (mI w), .int (nI sg.2.2.2.2.length), .ref (b 6)])) :: ((b 1), fa cs 400 (mf w)) :: ((b 2), qa cs 2 12 (mg w 0)) :: ((b 3), qa cs 2 12 (mg w 1)) :: ((b 4), qa cs 2 12 (mg w 2)) :: ((b 5), qa cs 2 12 (mg w 3)) :: ((b 6), qa cs 2 20 (mg w 4)) :: Z) H := hW
  refine lv_aload_n hx hb dX3_installPatch_5 rfl (lv_at hl 0 rfl) ?_
  refine lv_iload_n hx hb dX3_installPatch_6 rfl (lv_at hl 1 rfl) ?_
  refine z_csV (As := [.int (nI j9)]) (rest := []) ⟨hx, hb, hml, hown, hts⟩ (c_X3_isPatch l D cs (b 0) [.int (nI 0), .int (nI sg.1.length), .ref (b 1), .int (nI sg.2.1.length), .ref (b 2), .int (nI sg.2.2.1.length), .ref (b 3), .ref (b 4), .ref (b 5), .ref (mI w), .int (nI sg.2.2.2.2.length), .ref (b 6)] (nI j9) sg.2.2.1.length rfl) (cwV 1 hts gX3_installPatch_X3_isPatch rfl rfl rfl (by decide +kernel) ⟨Nat.le_of_ble_eq_true rfl, Nat.le_of_ble_eq_true rfl⟩) (hW.1 0 _ rfl) rfl (hW.1 0 _ rfl) hK rfl hl.1 rfl (Nat.le_of_ble_eq_true rfl) dX3_installPatch_7 ⟨(by rw [hRc]; omega), (by rw [hRs]; omega)⟩ (fun r hq9 => ?_)
  have hq9 : r = bI (vI (nI j9) sg.2.2.1.length) := hq9
  subst hq9
  refine z_ifb_ne (tgt := 19) hx hb dX3_installPatch_10 (by decide) (fun _ => ?_) (fun h9 => absurd (h9.symm.trans hji) (by decide))
  refine lv_aload_n hx hb dX3_installPatch_19 rfl (lv_at hl 0 rfl) ?_
  refine z_get (ci := 4) (v := .ref (mI w)) (C := RX3) (T := TX3) (N := 12) hx hb hts in4 hown hK (hW.1 0 _ rfl) rfl 9 (by decide) fl27 (fun _ h9 => h9) rfl dX3_installPatch_20 ?_
  refine lv_aload_n hx hb dX3_installPatch_23 rfl (lv_at hl 0 rfl) ?_
  refine z_get (ci := 4) (v := .ref (b 3)) (C := RX3) (T := TX3) (N := 12) hx hb hts in4 hown hK (hW.1 0 _ rfl) rfl 6 (by decide) fl18 (fun _ h9 => h9) rfl dX3_installPatch_24 ?_
  refine lv_iload_n hx hb dX3_installPatch_27 rfl (lv_at hl 1 rfl) ?_
  refine z_aald (k := j9) (y := (mA w 1 j9)) (t0 := 2) hx hb hK (hW.1 3 _ rfl) rfl rfl (by omega) (by omega) (hF.2.2.1 j9 hj).1.1 dX3_installPatch_28 ?_
  refine z_csS (As := [.ref (mI w), .ref (mA w 1 j9)]) (rest := []) ⟨hx, hb, hml, hown, hts⟩ (c_X3_are l D cs (mI w) (mA w 1 j9) sg.2.2.2.1.length ((psN sg.2.2.1 j9).1.length) (bb sg.2.2.2.1) (bb (psN sg.2.2.1 j9).1) (by have := hok.2.2.2.1.1; omega) (by have := (hok.2.2.1.2 j9 hj).1.1; omega)) (va_cwS 2 hts gX3_installPatch_X3_are rfl rfl rfl (by decide +kernel) ⟨Nat.le_of_ble_eq_true rfl, Nat.le_of_ble_eq_true rfl⟩) ⟨(hW.mem (List.mem_cons_of_mem _ (List.mem_cons_of_mem _ (List.mem_cons_of_mem _ (List.mem_cons_of_mem _ (List.mem_cons_of_mem _ (List.mem_cons_of_mem _ (List.mem_cons_of_mem _ hF.2.2.2.1)))))))), (hW.mem (List.mem_cons_of_mem _ (List.mem_cons_of_mem _ (List.mem_cons_of_mem _ (List.mem_cons_of_mem _ (List.mem_cons_of_mem _ (List.mem_cons_of_mem _ (List.mem_cons_of_mem _ (hF.2.2.1 j9 hj).1.2))))))))⟩ hK rfl hl.1 rfl (Nat.le_of_ble_eq_true rfl) dX3_installPatch_29 ⟨(by rw [hRc]; omega), (by rw [hRs]; omega)⟩ (fun r hq9 => ?_)
  have hq9 : r = bI (eqL sg.2.2.2.1 (psN sg.2.2.1 j9).1) := hq9
  subst hq9
  refine z_ifb_eq (tgt := 48) hx hb dX3_installPatch_32 (by decide) (fun _ => ?_) (fun h9 => absurd (h9.symm.trans hne) (by decide))
  refine lv_aload_n hx hb dX3_installPatch_48 rfl (lv_at hl 0 rfl) ?_
  refine lv_iconst (v := nI 2) hx hb dX3_installPatch_49 (by decide) ?_
  refine z_cmI (va_runV (As := [.int (nI 2)]) (rest := []) ⟨hx, hb, hml, hown, hts⟩ (c_X3_fail l D cs S0 Z b w (nI 0) (nI 2) sg) (cwV 1 hts gX3_installPatch_X3_fail rfl rfl rfl (by decide +kernel) ⟨Nat.le_of_ble_eq_true rfl, Nat.le_of_ble_eq_true rfl⟩) ⟨zP_blind, z_recv hK (hW.1 0 _ rfl) rfl, (zP_pre hW hK)⟩ rfl rfl hl.1 rfl (lv_room (Nat.le_of_ble_eq_true rfl)) dX3_installPatch_50 ⟨(by rw [hRc]; omega), (by rw [hRs]; omega)⟩) hS (fun r u8 H locs hu hW hS => ?_)
  rw [hu]
  have hW : Wd D S0 (((b 0), .inr (4, [.int (nI 2), .int (nI sg.1.length), .ref (b 1), .int (nI sg.2.1.length), .ref (b 2), .int (nI sg.2.2.1.length), .ref (b 3), .ref (b 4), .ref (b 5), .ref (mI w), .int (nI sg.2.2.2.2.length), .ref (b 6)])) :: ((b 1), fa cs 400 (mf w)) :: ((b 2), qa cs 2 12 (mg w 0)) :: ((b 3), qa cs 2 12 (mg w 1)) :: ((b 4), qa cs 2 12 (mg w 2)) :: ((b 5), qa cs 2 12 (mg w 3)) :: ((b 6), qa cs 2 20 (mg w 4)) :: Z) H := hW
  refine W.widen (k := 0) (n := 0) (by omega) (by omega) ?_
  exact W.iret (v := nI 0) hx hb hr (fun t ht hW9 => ⟨⟨_, (w, []), rfl, ⟨fun h9 => absurd h9 (by decide), hF⟩, (by show Wd D S0 _ _; rw [ht]; exact hW)⟩, hS.F ht⟩) (fun q9 h9 => hS.2.2 q9 h9) dX3_installPatch_53

set_option maxHeartbeats 4000000 in
set_option maxRecDepth 100000 in
theorem c_X3_installPatch (l : Launch) (D : va_G) (cs : Nat → ClassId) (S0 : Nat) (Z : va_W) (b : Nat → Nat) (w : MU) (sg : St) (hF : MF cs w sg Z) (th : Int32) (j9 : Nat) (hj : j9 < sg.2.2.1.length) (hee : eqL sg.2.2.2.1 (psN sg.2.2.1 j9).1 = true)  : Met l yX3_installPatch wsX3_installPatch ({ frames := 2, cells := 0, slots := 0, locals := 43 }) (zM [.ref (b 0), .int (nI j9)] (fun H => Wd D S0 (MW cs b w (th) sg Z) H) D cs) (va_Qi (fun r (v : MU × va_W) => ((0 : Nat) = 0 → r = nI (stI sg (psN sg.2.2.1 j9).2.1).2.2.2.2.length) ∧ MF cs v.1 (stI sg (psN sg.2.2.1 j9).2.1) (v.2 ++ Z)) (fun v t => Wd D S0 (MW cs b v.1 (nI 0) (stI sg (psN sg.2.2.1 j9).2.1) (v.2 ++ Z)) t.heap) (SA S0)) 0 0 (SA S0) := by
  refine Met.ofW (cc := cX3_installPatch) (maxL := 2) (ret := (some .int)) (by decide) rfl ?_
  intro p e s m args below meth c s₁ B hml hv
  obtain ⟨rfl, hW, hK, hA9⟩ := hv
  have hx := B.exec
  have hb := B.bytes
  have hr := B.returns
  have hts := atoms_spec (ws := wsX3_installPatch) B.pre
  have hown : s.vm.findClass RX3 = some m.cls := findClass_of_methodNamed B.named
  have hlocks := B.notSynchronized
  have hRc : (headSpec wsX3_installPatch ({ frames := 2, cells := 0, slots := 0, locals := 43 })).room.cells = 0 := rfl
  have hRs : (headSpec wsX3_installPatch ({ frames := 2, cells := 0, slots := 0, locals := 43 })).room.slots = 0 := rfl
  have fl18 := hts (.fieldLink RX3 18 "DeltaUpdaterModel" "bases" "[[I") (by decide +kernel)
  have fl21 := hts (.fieldLink RX3 21 "DeltaUpdaterModel" "goals" "[[I") (by decide +kernel)
  have fl27 := hts (.fieldLink RX3 27 "DeltaUpdaterModel" "installed" "[I") (by decide +kernel)
  have fl33 := hts (.fieldLink RX3 33 "DeltaUpdaterModel" "thrown" "I") (by decide +kernel)
  have in4 : ∀ w ∈ u_ws RX3 TX3 12, w ∈ wsX3_installPatch := by decide +kernel
  have hW : Wd D S0 (MW cs b w (th) sg Z) s.heap := hW
  have hS0 : S0 ≤ s.heap.size := hW.2.2
  have hS : va_S (SA S0) s.heap s.heap [] := va_S.rf
  have hl := lv_entry ([.ref (b 0), .int (nI j9)]) (n := 2) (Nat.le_of_ble_eq_true rfl)
  rw [lg_entry_eq]
  generalize (lg_sl ([.ref (b 0), .int (nI j9)]) ++ List.replicate (2 - (lg_sl ([.ref (b 0), .int (nI j9)])).length) Slot.unset).toArray = ls at hl ⊢
  have hl : lv_has ls 2 [(0, .ref (b 0)), (1, .int (nI j9))] := hl
  have hok := hF.2.2.2.2.2
  have hbl := hok.1.1
  have hnv := hok.2.1.1
  have hnp := hok.2.2.1.1
  have hnh := hok.2.2.2.2.1
  have hji := vI_in hj (show sg.2.2.1.length < 2 ^ 30 by omega)
  refine lv_aload_n hx hb dX3_installPatch_0 rfl (lv_at hl 0 rfl) ?_
  refine lv_iconst (v := nI 0) hx hb dX3_installPatch_1 (by decide) ?_
  refine z_put (ty := .int) (ci := 4) (v := .int (nI 0)) (C := RX3) (T := TX3) (N := 12) hx hb hts in4 tyX3 tyX3_ok nmX3 hown hK hW hS 0 rfl rfl 0 (by decide) fl33 (fun _ h9 => h9) rfl (by decide +kernel) rfl rfl (Nat.le_of_ble_eq_true rfl) dX3_installPatch_2 (fun H locs hW hS => ?_)
  have hW : Wd D S0 (((b 0), .inr (4, [.int (nI 0), .int (nI sg.1.length), .ref (b 1), .int (nI sg.2.1.length), .ref (b 2), .int (nI sg.2.2.1.length), .ref (b 3), .ref (b 4), .ref (b 5), .ref (mI w), .int (nI sg.2.2.2.2.length), .ref (b 6)])) :: ((b 1), fa cs 400 (mf w)) :: ((b 2), qa cs 2 12 (mg w 0)) :: ((b 3), qa cs 2 12 (mg w 1)) :: ((b 4), qa cs 2 12 (mg w 2)) :: ((b 5), qa cs 2 12 (mg w 3)) :: ((b 6), qa cs 2 20 (mg w 4)) :: Z) H := hW
  refine lv_aload_n hx hb dX3_installPatch_5 rfl (lv_at hl 0 rfl) ?_
  refine lv_iload_n hx hb dX3_installPatch_6 rfl (lv_at hl 1 rfl) ?_
  refine z_csV (As := [.int (nI j9)]) (rest := []) ⟨hx, hb, hml, hown, hts⟩ (c_X3_isPatch l D cs (b 0) [.int (nI 0), .int (nI sg.1.length), .ref (b 1), .int (nI sg.2.1.length), .ref (b 2), .int (nI sg.2.2.1.length), .ref (b 3), .ref (b 4), .ref (b 5), .ref (mI w), .int (nI sg.2.2.2.2.length), .ref (b 6)] (nI j9) sg.2.2.1.length rfl) (cwV 1 hts gX3_installPatch_X3_isPatch rfl rfl rfl (by decide +kernel) ⟨Nat.le_of_ble_eq_true rfl, Nat.le_of_ble_eq_true rfl⟩) (hW.1 0 _ rfl) rfl (hW.1 0 _ rfl) hK rfl hl.1 rfl (Nat.le_of_ble_eq_true rfl) dX3_installPatch_7 ⟨(by rw [hRc]; omega), (by rw [hRs]; omega)⟩ (fun r hq9 => ?_)
  have hq9 : r = bI (vI (nI j9) sg.2.2.1.length) := hq9
  subst hq9
  refine z_ifb_ne (tgt := 19) hx hb dX3_installPatch_10 (by decide) (fun _ => ?_) (fun h9 => absurd (h9.symm.trans hji) (by decide))
  refine lv_aload_n hx hb dX3_installPatch_19 rfl (lv_at hl 0 rfl) ?_
  refine z_get (ci := 4) (v := .ref (mI w)) (C := RX3) (T := TX3) (N := 12) hx hb hts in4 hown hK (hW.1 0 _ rfl) rfl 9 (by decide) fl27 (fun _ h9 => h9) rfl dX3_installPatch_20 ?_
  refine lv_aload_n hx hb dX3_installPatch_23 rfl (lv_at hl 0 rfl) ?_
  refine z_get (ci := 4) (v := .ref (b 3)) (C := RX3) (T := TX3) (N := 12) hx hb hts in4 hown hK (hW.1 0 _ rfl) rfl 6 (by decide) fl18 (fun _ h9 => h9) rfl dX3_installPatch_24 ?_
  refine lv_iload_n hx hb dX3_installPatch_27 rfl (lv_at hl 1 rfl) ?_
  refine z_aald (k := j9) (y := (mA w 1 j9)) (t0 := 2) hx hb hK (hW.1 3 _ rfl) rfl rfl (by omega) (by omega) (hF.2.2.1 j9 hj).1.1 dX3_installPatch_28 ?_
  refine z_csS (As := [.ref (mI w), .ref (mA w 1 j9)]) (rest := []) ⟨hx, hb, hml, hown, hts⟩ (c_X3_are l D cs (mI w) (mA w 1 j9) sg.2.2.2.1.length ((psN sg.2.2.1 j9).1.length) (bb sg.2.2.2.1) (bb (psN sg.2.2.1 j9).1) (by have := hok.2.2.2.1.1; omega) (by have := (hok.2.2.1.2 j9 hj).1.1; omega)) (va_cwS 2 hts gX3_installPatch_X3_are rfl rfl rfl (by decide +kernel) ⟨Nat.le_of_ble_eq_true rfl, Nat.le_of_ble_eq_true rfl⟩) ⟨(hW.mem (List.mem_cons_of_mem _ (List.mem_cons_of_mem _ (List.mem_cons_of_mem _ (List.mem_cons_of_mem _ (List.mem_cons_of_mem _ (List.mem_cons_of_mem _ (List.mem_cons_of_mem _ hF.2.2.2.1)))))))), (hW.mem (List.mem_cons_of_mem _ (List.mem_cons_of_mem _ (List.mem_cons_of_mem _ (List.mem_cons_of_mem _ (List.mem_cons_of_mem _ (List.mem_cons_of_mem _ (List.mem_cons_of_mem _ (hF.2.2.1 j9 hj).1.2))))))))⟩ hK rfl hl.1 rfl (Nat.le_of_ble_eq_true rfl) dX3_installPatch_29 ⟨(by rw [hRc]; omega), (by rw [hRs]; omega)⟩ (fun r hq9 => ?_)
  have hq9 : r = bI (eqL sg.2.2.2.1 (psN sg.2.2.1 j9).1) := hq9
  subst hq9
  refine z_ifb_eq (tgt := 48) hx hb dX3_installPatch_32 (by decide) (fun h9 => absurd (h9.symm.trans hee) (by decide)) (fun _ => ?_)
  refine lv_aload_n hx hb dX3_installPatch_35 rfl (lv_at hl 0 rfl) ?_
  refine lv_aload_n hx hb dX3_installPatch_36 rfl (lv_at hl 0 rfl) ?_
  refine z_get (ci := 4) (v := .ref (b 4)) (C := RX3) (T := TX3) (N := 12) hx hb hts in4 hown hK (hW.1 0 _ rfl) rfl 7 (by decide) fl21 (fun _ h9 => h9) rfl dX3_installPatch_37 ?_
  refine lv_iload_n hx hb dX3_installPatch_40 rfl (lv_at hl 1 rfl) ?_
  refine z_aald (k := j9) (y := (mA w 2 j9)) (t0 := 2) hx hb hK (hW.1 4 _ rfl) rfl rfl (by omega) (by omega) (hF.2.2.1 j9 hj).2.1.1 dX3_installPatch_41 ?_
  refine z_cmI (va_runV (As := [.ref (mA w 2 j9)]) (rest := []) ⟨hx, hb, hml, hown, hts⟩ (c_X3_install l D cs S0 Z b w sg hF (nI 0) (mA w 2 j9) (psN sg.2.2.1 j9).2.1 (hF.2.2.1 j9 hj).2.1.2 (hok.2.2.1.2 j9 hj).2.1) (cwV 1 hts gX3_installPatch_X3_install rfl rfl rfl (by decide +kernel) ⟨Nat.le_of_ble_eq_true rfl, Nat.le_of_ble_eq_true rfl⟩) ⟨zM_blind, z_recv hK (hW.1 0 _ rfl) rfl, (zM_pre hW hK hA9)⟩ rfl rfl hl.1 rfl (lv_room (Nat.le_of_ble_eq_true rfl)) dX3_installPatch_42 ⟨(by rw [hRc]; omega), (by rw [hRs]; omega)⟩) hS (fun r u8 H locs hu hW hS => ?_)
  rw [hu.1]
  refine lv_goto (tgt := 53) hx hb dX3_installPatch_45 (by decide) ?_
  refine W.widen (k := 0) (n := 0) (by omega) (by omega) ?_
  exact W.iret (v := nI ((stI sg (psN sg.2.2.1 j9).2.1).2.2.2.2.length)) hx hb hr (fun t ht hW9 => ⟨⟨_, u8, rfl, ⟨fun _ => rfl, hu.2⟩, (by show Wd D S0 _ _; rw [ht]; exact hW)⟩, hS.F ht⟩) (fun q9 h9 => hS.2.2 q9 h9) dX3_installPatch_53

set_option maxHeartbeats 4000000 in
set_option maxRecDepth 100000 in
theorem c_X3_rollBack_a (l : Launch) (D : va_G) (cs : Nat → ClassId) (S0 : Nat) (Z : va_W) (b : Nat → Nat) (w : MU) (sg : St) (hF : MF cs w sg Z) (th : Int32) (hz : sg.2.2.2.2.length = 0)  : Met l yX3_rollBack wsX3_rollBack ({ frames := 1, cells := 0, slots := 0, locals := 21 }) (zM [.ref (b 0)] (fun H => Wd D S0 (MW cs b w (th) sg Z) H) D cs) (va_Qi (fun r (v : MU × va_W) => ((1 : Nat) = 0 → r = nI 0) ∧ MF cs v.1 sg (v.2 ++ Z)) (fun v t => Wd D S0 (MW cs b v.1 (nI 1) sg (v.2 ++ Z)) t.heap) (SA S0)) 0 0 (SA S0) := by
  refine Met.ofW (cc := cX3_rollBack) (maxL := 1) (ret := (some .int)) (by decide) rfl ?_
  intro p e s m args below meth c s₁ B hml hv
  obtain ⟨rfl, hW, hK, hA9⟩ := hv
  have hx := B.exec
  have hb := B.bytes
  have hr := B.returns
  have hts := atoms_spec (ws := wsX3_rollBack) B.pre
  have hown : s.vm.findClass RX3 = some m.cls := findClass_of_methodNamed B.named
  have hlocks := B.notSynchronized
  have hRc : (headSpec wsX3_rollBack ({ frames := 1, cells := 0, slots := 0, locals := 21 })).room.cells = 0 := rfl
  have hRs : (headSpec wsX3_rollBack ({ frames := 1, cells := 0, slots := 0, locals := 21 })).room.slots = 0 := rfl
  have fl117 := hts (.fieldLink RX3 117 "DeltaUpdaterModel" "remembered" "I") (by decide +kernel)
  have fl33 := hts (.fieldLink RX3 33 "DeltaUpdaterModel" "thrown" "I") (by decide +kernel)
  have in4 : ∀ w ∈ u_ws RX3 TX3 12, w ∈ wsX3_rollBack := by decide +kernel
  have hW : Wd D S0 (MW cs b w (th) sg Z) s.heap := hW
  have hS0 : S0 ≤ s.heap.size := hW.2.2
  have hS : va_S (SA S0) s.heap s.heap [] := va_S.rf
  have hl := lv_entry ([.ref (b 0)]) (n := 1) (Nat.le_of_ble_eq_true rfl)
  rw [lg_entry_eq]
  generalize (lg_sl ([.ref (b 0)]) ++ List.replicate (1 - (lg_sl ([.ref (b 0)])).length) Slot.unset).toArray = ls at hl ⊢
  have hl : lv_has ls 1 [(0, .ref (b 0))] := hl
  have hok := hF.2.2.2.2.2
  have hbl := hok.1.1
  have hnv := hok.2.1.1
  have hnp := hok.2.2.1.1
  have hnh := hok.2.2.2.2.1
  refine lv_aload_n hx hb dX3_rollBack_0 rfl (lv_at hl 0 rfl) ?_
  refine lv_iconst (v := nI 0) hx hb dX3_rollBack_1 (by decide) ?_
  refine z_put (ty := .int) (ci := 4) (v := .int (nI 0)) (C := RX3) (T := TX3) (N := 12) hx hb hts in4 tyX3 tyX3_ok nmX3 hown hK hW hS 0 rfl rfl 0 (by decide) fl33 (fun _ h9 => h9) rfl (by decide +kernel) rfl rfl (Nat.le_of_ble_eq_true rfl) dX3_rollBack_2 (fun H locs hW hS => ?_)
  have hW : Wd D S0 (((b 0), .inr (4, [.int (nI 0), .int (nI sg.1.length), .ref (b 1), .int (nI sg.2.1.length), .ref (b 2), .int (nI sg.2.2.1.length), .ref (b 3), .ref (b 4), .ref (b 5), .ref (mI w), .int (nI sg.2.2.2.2.length), .ref (b 6)])) :: ((b 1), fa cs 400 (mf w)) :: ((b 2), qa cs 2 12 (mg w 0)) :: ((b 3), qa cs 2 12 (mg w 1)) :: ((b 4), qa cs 2 12 (mg w 2)) :: ((b 5), qa cs 2 12 (mg w 3)) :: ((b 6), qa cs 2 20 (mg w 4)) :: Z) H := hW
  refine lv_aload_n hx hb dX3_rollBack_5 rfl (lv_at hl 0 rfl) ?_
  refine z_get (ci := 4) (v := .int (nI sg.2.2.2.2.length)) (C := RX3) (T := TX3) (N := 12) hx hb hts in4 hown hK (hW.1 0 _ rfl) rfl 10 (by decide) fl117 (fun _ h9 => h9) rfl dX3_rollBack_6 ?_
  refine z_ifn_ne (tgt := 18) hx hb (by omega) dX3_rollBack_9 (by decide) (fun hc9 => ?_) (fun hc9 => ?_)
  · skip
    have hc9 : ¬ sg.2.2.2.2.length = 0 := hc9
    omega
  · skip
    have hc9 : sg.2.2.2.2.length = 0 := hc9
    refine lv_aload_n hx hb dX3_rollBack_12 rfl (lv_at hl 0 rfl) ?_
    refine lv_iconst (v := nI 1) hx hb dX3_rollBack_13 (by decide) ?_
    refine z_cmI (va_runV (As := [.int (nI 1)]) (rest := []) ⟨hx, hb, hml, hown, hts⟩ (c_X3_fail l D cs S0 Z b w (nI 0) (nI 1) sg) (cwV 1 hts gX3_rollBack_X3_fail rfl rfl rfl (by decide +kernel) ⟨Nat.le_of_ble_eq_true rfl, Nat.le_of_ble_eq_true rfl⟩) ⟨zP_blind, z_recv hK (hW.1 0 _ rfl) rfl, (zP_pre hW hK)⟩ rfl rfl hl.1 rfl (lv_room (Nat.le_of_ble_eq_true rfl)) dX3_rollBack_14 ⟨(by rw [hRc]; omega), (by rw [hRs]; omega)⟩) hS (fun r u8 H locs hu hW hS => ?_)
    rw [hu]
    have hW : Wd D S0 (((b 0), .inr (4, [.int (nI 1), .int (nI sg.1.length), .ref (b 1), .int (nI sg.2.1.length), .ref (b 2), .int (nI sg.2.2.1.length), .ref (b 3), .ref (b 4), .ref (b 5), .ref (mI w), .int (nI sg.2.2.2.2.length), .ref (b 6)])) :: ((b 1), fa cs 400 (mf w)) :: ((b 2), qa cs 2 12 (mg w 0)) :: ((b 3), qa cs 2 12 (mg w 1)) :: ((b 4), qa cs 2 12 (mg w 2)) :: ((b 5), qa cs 2 12 (mg w 3)) :: ((b 6), qa cs 2 20 (mg w 4)) :: Z) H := hW
    refine W.widen (k := 0) (n := 0) (by omega) (by omega) ?_
    exact W.iret (v := nI 0) hx hb hr (fun t ht hW9 => ⟨⟨_, (w, []), rfl, ⟨fun h9 => absurd h9 (by decide), hF⟩, (by show Wd D S0 _ _; rw [ht]; exact hW)⟩, hS.F ht⟩) (fun q9 h9 => hS.2.2 q9 h9) dX3_rollBack_17

set_option maxHeartbeats 4000000 in
set_option maxRecDepth 100000 in
theorem c_X3_rollBack (l : Launch) (D : va_G) (cs : Nat → ClassId) (S0 : Nat) (Z : va_W) (b : Nat → Nat) (w : MU) (sg : St) (hF : MF cs w sg Z) (th : Int32) (hpos : 0 < sg.2.2.2.2.length)  : Met l yX3_rollBack wsX3_rollBack ({ frames := 0, cells := 0, slots := 0, locals := 0 }) (zM [.ref (b 0)] (fun H => Wd D S0 (MW cs b w (th) sg Z) H) D cs) (va_Qi (fun r (v : MU × va_W) => ((0 : Nat) = 0 → r = nI (sg.2.2.2.2.length - 1)) ∧ MF cs v.1 (stD (stJ sg (vsN sg.2.2.2.2 (sg.2.2.2.2.length - 1))) (sg.2.2.2.2.length - 1)) (v.2 ++ Z)) (fun v t => Wd D S0 (MW cs b v.1 (nI 0) (stD (stJ sg (vsN sg.2.2.2.2 (sg.2.2.2.2.length - 1))) (sg.2.2.2.2.length - 1)) (v.2 ++ Z)) t.heap) (SA S0)) 0 0 (SA S0) := by
  refine Met.ofW (cc := cX3_rollBack) (maxL := 1) (ret := (some .int)) (by decide) rfl ?_
  intro p e s m args below meth c s₁ B hml hv
  obtain ⟨rfl, hW, hK, hA9⟩ := hv
  have hx := B.exec
  have hb := B.bytes
  have hr := B.returns
  have hts := atoms_spec (ws := wsX3_rollBack) B.pre
  have hown : s.vm.findClass RX3 = some m.cls := findClass_of_methodNamed B.named
  have hlocks := B.notSynchronized
  have hRc : (headSpec wsX3_rollBack ({ frames := 0, cells := 0, slots := 0, locals := 0 })).room.cells = 0 := rfl
  have hRs : (headSpec wsX3_rollBack ({ frames := 0, cells := 0, slots := 0, locals := 0 })).room.slots = 0 := rfl
  have fl117 := hts (.fieldLink RX3 117 "DeltaUpdaterModel" "remembered" "I") (by decide +kernel)
  have fl27 := hts (.fieldLink RX3 27 "DeltaUpdaterModel" "installed" "[I") (by decide +kernel)
  have fl30 := hts (.fieldLink RX3 30 "DeltaUpdaterModel" "history" "[[I") (by decide +kernel)
  have fl33 := hts (.fieldLink RX3 33 "DeltaUpdaterModel" "thrown" "I") (by decide +kernel)
  have in4 : ∀ w ∈ u_ws RX3 TX3 12, w ∈ wsX3_rollBack := by decide +kernel
  have hW : Wd D S0 (MW cs b w (th) sg Z) s.heap := hW
  have hS0 : S0 ≤ s.heap.size := hW.2.2
  have hS : va_S (SA S0) s.heap s.heap [] := va_S.rf
  have hl := lv_entry ([.ref (b 0)]) (n := 1) (Nat.le_of_ble_eq_true rfl)
  rw [lg_entry_eq]
  generalize (lg_sl ([.ref (b 0)]) ++ List.replicate (1 - (lg_sl ([.ref (b 0)])).length) Slot.unset).toArray = ls at hl ⊢
  have hl : lv_has ls 1 [(0, .ref (b 0))] := hl
  have hok := hF.2.2.2.2.2
  have hbl := hok.1.1
  have hnv := hok.2.1.1
  have hnp := hok.2.2.1.1
  have hnh := hok.2.2.2.2.1
  refine lv_aload_n hx hb dX3_rollBack_0 rfl (lv_at hl 0 rfl) ?_
  refine lv_iconst (v := nI 0) hx hb dX3_rollBack_1 (by decide) ?_
  refine z_put (ty := .int) (ci := 4) (v := .int (nI 0)) (C := RX3) (T := TX3) (N := 12) hx hb hts in4 tyX3 tyX3_ok nmX3 hown hK hW hS 0 rfl rfl 0 (by decide) fl33 (fun _ h9 => h9) rfl (by decide +kernel) rfl rfl (Nat.le_of_ble_eq_true rfl) dX3_rollBack_2 (fun H locs hW hS => ?_)
  have hW : Wd D S0 (((b 0), .inr (4, [.int (nI 0), .int (nI sg.1.length), .ref (b 1), .int (nI sg.2.1.length), .ref (b 2), .int (nI sg.2.2.1.length), .ref (b 3), .ref (b 4), .ref (b 5), .ref (mI w), .int (nI sg.2.2.2.2.length), .ref (b 6)])) :: ((b 1), fa cs 400 (mf w)) :: ((b 2), qa cs 2 12 (mg w 0)) :: ((b 3), qa cs 2 12 (mg w 1)) :: ((b 4), qa cs 2 12 (mg w 2)) :: ((b 5), qa cs 2 12 (mg w 3)) :: ((b 6), qa cs 2 20 (mg w 4)) :: Z) H := hW
  refine lv_aload_n hx hb dX3_rollBack_5 rfl (lv_at hl 0 rfl) ?_
  refine z_get (ci := 4) (v := .int (nI sg.2.2.2.2.length)) (C := RX3) (T := TX3) (N := 12) hx hb hts in4 hown hK (hW.1 0 _ rfl) rfl 10 (by decide) fl117 (fun _ h9 => h9) rfl dX3_rollBack_6 ?_
  refine z_ifn_ne (tgt := 18) hx hb (by omega) dX3_rollBack_9 (by decide) (fun hc9 => ?_) (fun hc9 => ?_)
  · skip
    have hc9 : ¬ sg.2.2.2.2.length = 0 := hc9
    refine lv_aload_n hx hb dX3_rollBack_18 rfl (lv_at hl 0 rfl) ?_
    refine lv_dup hx hb dX3_rollBack_19 rfl ?_
    refine z_get (ci := 4) (v := .int (nI sg.2.2.2.2.length)) (C := RX3) (T := TX3) (N := 12) hx hb hts in4 hown hK (hW.1 0 _ rfl) rfl 10 (by decide) fl117 (fun _ h9 => h9) rfl dX3_rollBack_20 ?_
    refine lv_iconst (v := nI 1) hx hb dX3_rollBack_23 (by decide) ?_
    refine lv_isub hx hb dX3_rollBack_24 ?_
    refine zti (pk_sub (by omega)) (y := nI (sg.2.2.2.2.length - 1)) ?_
    refine z_put (ty := .int) (ci := 4) (v := .int (nI (sg.2.2.2.2.length - 1))) (C := RX3) (T := TX3) (N := 12) hx hb hts in4 tyX3 tyX3_ok nmX3 hown hK hW hS 0 rfl rfl 10 (by decide) fl117 (fun _ h9 => h9) rfl (by decide +kernel) rfl rfl (Nat.le_of_ble_eq_true rfl) dX3_rollBack_25 (fun H locs hW hS => ?_)
    have hW : Wd D S0 (((b 0), .inr (4, [.int (nI 0), .int (nI sg.1.length), .ref (b 1), .int (nI sg.2.1.length), .ref (b 2), .int (nI sg.2.2.1.length), .ref (b 3), .ref (b 4), .ref (b 5), .ref (mI w), .int (nI (sg.2.2.2.2.length - 1)), .ref (b 6)])) :: ((b 1), fa cs 400 (mf w)) :: ((b 2), qa cs 2 12 (mg w 0)) :: ((b 3), qa cs 2 12 (mg w 1)) :: ((b 4), qa cs 2 12 (mg w 2)) :: ((b 5), qa cs 2 12 (mg w 3)) :: ((b 6), qa cs 2 20 (mg w 4)) :: Z) H := hW
    have hlenD : (stD sg (sg.2.2.2.2.length - 1)).2.2.2.2.length = sg.2.2.2.2.length - 1 := List.length_eraseIdx_of_lt (by omega)
    rw [← hlenD] at hW
    have hW : Wd D S0 (((b 0), .inr (4, [.int (nI 0), .int (nI sg.1.length), .ref (b 1), .int (nI sg.2.1.length), .ref (b 2), .int (nI sg.2.2.1.length), .ref (b 3), .ref (b 4), .ref (b 5), .ref (mI w), .int (nI ((stD sg (sg.2.2.2.2.length - 1)).2.2.2.2.length)), .ref (b 6)])) :: ((b 1), fa cs 400 (mf w)) :: ((b 2), qa cs 2 12 (mg w 0)) :: ((b 3), qa cs 2 12 (mg w 1)) :: ((b 4), qa cs 2 12 (mg w 2)) :: ((b 5), qa cs 2 12 (mg w 3)) :: ((b 6), qa cs 2 20 (mg w 4)) :: Z) H := hW
    refine lv_aload_n hx hb dX3_rollBack_28 rfl (lv_at hl 0 rfl) ?_
    refine lv_aload_n hx hb dX3_rollBack_29 rfl (lv_at hl 0 rfl) ?_
    refine z_get (ci := 4) (v := .ref (b 6)) (C := RX3) (T := TX3) (N := 12) hx hb hts in4 hown hK (hW.1 0 _ rfl) rfl 11 (by decide) fl30 (fun _ h9 => h9) rfl dX3_rollBack_30 ?_
    refine lv_aload_n hx hb dX3_rollBack_33 rfl (lv_at hl 0 rfl) ?_
    refine z_get (ci := 4) (v := .int (nI ((stD sg (sg.2.2.2.2.length - 1)).2.2.2.2.length))) (C := RX3) (T := TX3) (N := 12) hx hb hts in4 hown hK (hW.1 0 _ rfl) rfl 10 (by decide) fl117 (fun _ h9 => h9) rfl dX3_rollBack_34 ?_
    refine z_aald (k := ((stD sg (sg.2.2.2.2.length - 1)).2.2.2.2.length)) (y := (mA w 4 (sg.2.2.2.2.length - 1))) (t0 := 2) hx hb hK (hW.1 6 _ rfl) rfl rfl (by omega) (by omega) (by rw [hlenD]; exact (hF.2.2.2.2.1 _ (by omega)).1) dX3_rollBack_37 ?_
    refine z_put (ty := (.array .int)) (ci := 4) (v := .ref (mA w 4 (sg.2.2.2.2.length - 1))) (C := RX3) (T := TX3) (N := 12) hx hb hts in4 tyX3 tyX3_ok nmX3 hown hK hW hS 0 rfl rfl 9 (by decide) fl27 (fun _ h9 => h9) rfl (by decide +kernel) rfl rfl (Nat.le_of_ble_eq_true rfl) dX3_rollBack_38 (fun H locs hW hS => ?_)
    have hW : Wd D S0 (((b 0), .inr (4, [.int (nI 0), .int (nI sg.1.length), .ref (b 1), .int (nI sg.2.1.length), .ref (b 2), .int (nI sg.2.2.1.length), .ref (b 3), .ref (b 4), .ref (b 5), .ref (mA w 4 (sg.2.2.2.2.length - 1)), .int (nI ((stD sg (sg.2.2.2.2.length - 1)).2.2.2.2.length)), .ref (b 6)])) :: ((b 1), fa cs 400 (mf w)) :: ((b 2), qa cs 2 12 (mg w 0)) :: ((b 3), qa cs 2 12 (mg w 1)) :: ((b 4), qa cs 2 12 (mg w 2)) :: ((b 5), qa cs 2 12 (mg w 3)) :: ((b 6), qa cs 2 20 (mg w 4)) :: Z) H := hW
    refine lv_aload_n hx hb dX3_rollBack_41 rfl (lv_at hl 0 rfl) ?_
    refine z_get (ci := 4) (v := .int (nI ((stD sg (sg.2.2.2.2.length - 1)).2.2.2.2.length))) (C := RX3) (T := TX3) (N := 12) hx hb hts in4 hown hK (hW.1 0 _ rfl) rfl 10 (by decide) fl117 (fun _ h9 => h9) rfl dX3_rollBack_42 ?_
    refine W.widen (k := 0) (n := 0) (by omega) (by omega) ?_
    exact W.iret (v := nI ((stD sg (sg.2.2.2.2.length - 1)).2.2.2.2.length)) hx hb hr (fun t ht hW9 => ⟨⟨_, (muI w (mA w 4 (sg.2.2.2.2.length - 1)), []), rfl, ⟨fun _ => congrArg nI hlenD, (hF.pop hpos).inst (hF.2.2.2.2.1 _ (by omega)).2 (hok.2.2.2.2.2 _ (by omega))⟩, (by show Wd D S0 _ _; rw [ht]; exact hW)⟩, hS.F ht⟩) (fun q9 h9 => hS.2.2 q9 h9) dX3_rollBack_45
  · skip
    have hc9 : sg.2.2.2.2.length = 0 := hc9
    omega

set_option maxHeartbeats 4000000 in
set_option maxRecDepth 100000 in
theorem c_X3_digest (l : Launch) (D : va_G) (cs : Nat → ClassId) (S0 : Nat) (Z : va_W) (b : Nat → Nat) (w : MU) (sg : St) (hF : MF cs w sg Z) (th : Int32)  : Met l yX3_digest wsX3_digest ({ frames := 2, cells := 0, slots := 0, locals := 51 }) (zM [.ref (b 0)] (fun H => Wd D S0 (MW cs b w (th) sg Z) H) D cs) (va_Ql (fun r (v : MU × va_W) => r = dgS sg ∧ MF cs v.1 sg (v.2 ++ Z)) (fun v t => Wd D S0 (MW cs b v.1 (nI 0) sg (v.2 ++ Z)) t.heap) (SA S0)) 0 0 (SA S0) := by
  refine Met.ofW (cc := cX3_digest) (maxL := 7) (ret := (some .long)) (by decide) rfl ?_
  intro p e s m args below meth c s₁ B hml hv
  obtain ⟨rfl, hW, hK, hA9⟩ := hv
  have hx := B.exec
  have hb := B.bytes
  have hr := B.returns
  have hts := atoms_spec (ws := wsX3_digest) B.pre
  have hown : s.vm.findClass RX3 = some m.cls := findClass_of_methodNamed B.named
  have hlocks := B.notSynchronized
  have hRc : (headSpec wsX3_digest ({ frames := 2, cells := 0, slots := 0, locals := 51 })).room.cells = 0 := rfl
  have hRs : (headSpec wsX3_digest ({ frames := 2, cells := 0, slots := 0, locals := 51 })).room.slots = 0 := rfl
  have fl117 := hts (.fieldLink RX3 117 "DeltaUpdaterModel" "remembered" "I") (by decide +kernel)
  have fl14 := hts (.fieldLink RX3 14 "DeltaUpdaterModel" "rows" "[[I") (by decide +kernel)
  have fl27 := hts (.fieldLink RX3 27 "DeltaUpdaterModel" "installed" "[I") (by decide +kernel)
  have fl33 := hts (.fieldLink RX3 33 "DeltaUpdaterModel" "thrown" "I") (by decide +kernel)
  have fl37 := hts (.fieldLink RX3 37 "DeltaUpdaterModel" "versions" "I") (by decide +kernel)
  have fl44 := hts (.fieldLink RX3 44 "DeltaUpdaterModel" "patches" "I") (by decide +kernel)
  have fl51 := hts (.fieldLink RX3 51 "DeltaUpdaterModel" "buffered" "I") (by decide +kernel)
  have fl9 := hts (.fieldLink RX3 9 "DeltaUpdaterModel" "buffer" "[I") (by decide +kernel)
  have in4 : ∀ w ∈ u_ws RX3 TX3 12, w ∈ wsX3_digest := by decide +kernel
  have hW : Wd D S0 (MW cs b w (th) sg Z) s.heap := hW
  have hS0 : S0 ≤ s.heap.size := hW.2.2
  have hS : va_S (SA S0) s.heap s.heap [] := va_S.rf
  have hl := lv_entry ([.ref (b 0)]) (n := 7) (Nat.le_of_ble_eq_true rfl)
  rw [lg_entry_eq]
  generalize (lg_sl ([.ref (b 0)]) ++ List.replicate (7 - (lg_sl ([.ref (b 0)])).length) Slot.unset).toArray = ls at hl ⊢
  have hl : lv_has ls 7 [(0, .ref (b 0))] := hl
  have hok := hF.2.2.2.2.2
  have hbl := hok.1.1
  have hnv := hok.2.1.1
  have hnp := hok.2.2.1.1
  have hnh := hok.2.2.2.2.1
  have hinl := hok.2.2.2.1.1
  refine lv_aload_n hx hb dX3_digest_0 rfl (lv_at hl 0 rfl) ?_
  refine lv_iconst (v := nI 0) hx hb dX3_digest_1 (by decide) ?_
  refine z_put (ty := .int) (ci := 4) (v := .int (nI 0)) (C := RX3) (T := TX3) (N := 12) hx hb hts in4 tyX3 tyX3_ok nmX3 hown hK hW hS 0 rfl rfl 0 (by decide) fl33 (fun _ h9 => h9) rfl (by decide +kernel) rfl rfl (Nat.le_of_ble_eq_true rfl) dX3_digest_2 (fun H locs hW hS => ?_)
  have hW : Wd D S0 (((b 0), .inr (4, [.int (nI 0), .int (nI sg.1.length), .ref (b 1), .int (nI sg.2.1.length), .ref (b 2), .int (nI sg.2.2.1.length), .ref (b 3), .ref (b 4), .ref (b 5), .ref (mI w), .int (nI sg.2.2.2.2.length), .ref (b 6)])) :: ((b 1), fa cs 400 (mf w)) :: ((b 2), qa cs 2 12 (mg w 0)) :: ((b 3), qa cs 2 12 (mg w 1)) :: ((b 4), qa cs 2 12 (mg w 2)) :: ((b 5), qa cs 2 12 (mg w 3)) :: ((b 6), qa cs 2 20 (mg w 4)) :: Z) H := hW
  refine lv_ldc2 (v := 233) hx hb hown (hts (.constantLong RX3 125 (233)) (by decide +kernel)) dX3_digest_5 ?_
  refine lv_aload_n hx hb dX3_digest_8 rfl (lv_at hl 0 rfl) ?_
  refine z_get (ci := 4) (v := .ref (b 1)) (C := RX3) (T := TX3) (N := 12) hx hb hts in4 hown hK (hW.1 0 _ rfl) rfl 2 (by decide) fl9 (fun _ h9 => h9) rfl dX3_digest_9 ?_
  refine lv_aload_n hx hb dX3_digest_12 rfl (lv_at hl 0 rfl) ?_
  refine z_get (ci := 4) (v := .int (nI sg.1.length)) (C := RX3) (T := TX3) (N := 12) hx hb hts in4 hown hK (hW.1 0 _ rfl) rfl 1 (by decide) fl51 (fun _ h9 => h9) rfl dX3_digest_13 ?_
  refine z_csSl (As := [.long 233, .ref (b 1), .int (nI sg.1.length)]) (rest := []) ⟨hx, hb, hml, hown, hts⟩ (c_X3_with l D cs (b 1) 400 (mf w) 233 sg.1.length (by omega) (by omega)) (va_cwS 3 hts gX3_digest_X3_with rfl rfl rfl (by decide +kernel) ⟨Nat.le_of_ble_eq_true rfl, Nat.le_of_ble_eq_true rfl⟩) (hW.1 1 _ rfl) hK rfl hl.1 rfl (Nat.le_of_ble_eq_true rfl) dX3_digest_16 ⟨(by rw [hRc]; omega), (by rw [hRs]; omega)⟩ (fun r hq9 => ?_)
  have hq9 : r = dgR 233 (mf w) sg.1.length := hq9
  subst hq9
  refine ztl (y := dgR 233 (bb sg.1) sg.1.length) (dgR_cong hF.1) ?_
  refine lv_lstore_n (lv' := [(1, .long (dgR 233 (bb sg.1) sg.1.length)), (0, .ref (b 0))]) hx hb dX3_digest_19 rfl hl (by decide) rfl (fun ls hl => ?_)
  refine lv_lload_n hx hb dX3_digest_20 rfl (lv_at hl 0 rfl) ?_
  refine lv_ldc2 (v := 31) hx hb hown (hts (.constantLong RX3 123 (31)) (by decide +kernel)) dX3_digest_21 ?_
  refine lv_lmul hx hb dX3_digest_24 ?_
  refine lv_aload_n hx hb dX3_digest_25 rfl (lv_at hl 1 rfl) ?_
  refine z_get (ci := 4) (v := .int (nI sg.2.1.length)) (C := RX3) (T := TX3) (N := 12) hx hb hts in4 hown hK (hW.1 0 _ rfl) rfl 3 (by decide) fl37 (fun _ h9 => h9) rfl dX3_digest_26 ?_
  refine lv_i2l (v := (nI sg.2.1.length).toInt64) hx hb dX3_digest_29 rfl ?_
  refine lv_ladd hx hb dX3_digest_30 ?_
  refine lv_lstore_n (lv' := [(1, .long (((dgR 233 (bb sg.1) sg.1.length) * 31) + ((nI sg.2.1.length).toInt64))), (0, .ref (b 0))]) hx hb dX3_digest_31 rfl hl (by decide) rfl (fun ls hl => ?_)
  refine lv_iconst (v := nI 0) hx hb dX3_digest_32 (by decide) ?_
  refine lv_istore_n (lv' := [(3, .int (nI 0)), (1, .long (((dgR 233 (bb sg.1) sg.1.length) * 31) + ((nI sg.2.1.length).toInt64))), (0, .ref (b 0))]) hx hb dX3_digest_33 rfl hl (by decide) rfl (fun ls hl => ?_)
  refine z_loopM (σ := Nat) (fun q9 => sg.2.1.length - q9) (fun q9 ls H locs => lv_has ls 7 [(3, .int (nI q9)), (1, .long (dgV (dgR 233 (bb sg.1) sg.1.length * 31 + (nI sg.2.1.length).toInt64) sg.2.1 q9)), (0, .ref (b 0))] ∧ Wd D S0 (((b 0), .inr (4, [.int (nI 0), .int (nI sg.1.length), .ref (b 1), .int (nI sg.2.1.length), .ref (b 2), .int (nI sg.2.2.1.length), .ref (b 3), .ref (b 4), .ref (b 5), .ref (mI w), .int (nI sg.2.2.2.2.length), .ref (b 6)])) :: ((b 1), fa cs 400 (mf w)) :: ((b 2), qa cs 2 12 (mg w 0)) :: ((b 3), qa cs 2 12 (mg w 1)) :: ((b 4), qa cs 2 12 (mg w 2)) :: ((b 5), qa cs 2 12 (mg w 3)) :: ((b 6), qa cs 2 20 (mg w 4)) :: Z) H ∧ va_S (SA S0) s.heap H locs ∧ (q9 ≤ sg.2.1.length)) 0 ⟨lv_sub hl [0, 1, 2] rfl, hW, hS, (show 0 ≤ sg.2.1.length from Nat.zero_le _)⟩ (fun dd34 ih34 y9 ls H locs hd9 hI9 => ?_)
  obtain ⟨k, rfl⟩ : ∃ z, z = y9 := ⟨_, rfl⟩
  have hd34 : sg.2.1.length - k = dd34 := hd9
  have hI9 : lv_has ls 7 [(3, .int (nI k)), (1, .long (dgV (dgR 233 (bb sg.1) sg.1.length * 31 + (nI sg.2.1.length).toInt64) sg.2.1 k)), (0, .ref (b 0))] ∧ Wd D S0 (((b 0), .inr (4, [.int (nI 0), .int (nI sg.1.length), .ref (b 1), .int (nI sg.2.1.length), .ref (b 2), .int (nI sg.2.2.1.length), .ref (b 3), .ref (b 4), .ref (b 5), .ref (mI w), .int (nI sg.2.2.2.2.length), .ref (b 6)])) :: ((b 1), fa cs 400 (mf w)) :: ((b 2), qa cs 2 12 (mg w 0)) :: ((b 3), qa cs 2 12 (mg w 1)) :: ((b 4), qa cs 2 12 (mg w 2)) :: ((b 5), qa cs 2 12 (mg w 3)) :: ((b 6), qa cs 2 20 (mg w 4)) :: Z) H ∧ va_S (SA S0) s.heap H locs ∧ (k ≤ sg.2.1.length) := hI9
  obtain ⟨hl, hW, hS, hk⟩ := hI9
  refine lv_iload_n hx hb dX3_digest_34 rfl (lv_at hl 0 rfl) ?_
  refine lv_aload_n hx hb dX3_digest_35 rfl (lv_at hl 2 rfl) ?_
  refine z_get (ci := 4) (v := .int (nI sg.2.1.length)) (C := RX3) (T := TX3) (N := 12) hx hb hts in4 hown hK (hW.1 0 _ rfl) rfl 3 (by decide) fl37 (fun _ h9 => h9) rfl dX3_digest_36 ?_
  refine z_icmp_ge (tgt := 66) hx hb (by omega) (by omega) dX3_digest_39 (by decide) (fun hc39 => ?_) (fun hc39 => ?_)
  · skip
    have hc39 : sg.2.1.length ≤ k := hc39
    have e9 : k = sg.2.1.length := by omega
    rw [e9] at hl
    refine lv_lload_n hx hb dX3_digest_66 rfl (lv_at hl 1 rfl) ?_
    refine lv_ldc2 (v := 31) hx hb hown (hts (.constantLong RX3 123 (31)) (by decide +kernel)) dX3_digest_67 ?_
    refine lv_lmul hx hb dX3_digest_70 ?_
    refine lv_aload_n hx hb dX3_digest_71 rfl (lv_at hl 2 rfl) ?_
    refine z_get (ci := 4) (v := .int (nI sg.2.2.1.length)) (C := RX3) (T := TX3) (N := 12) hx hb hts in4 hown hK (hW.1 0 _ rfl) rfl 5 (by decide) fl44 (fun _ h9 => h9) rfl dX3_digest_72 ?_
    refine lv_i2l (v := (nI sg.2.2.1.length).toInt64) hx hb dX3_digest_75 rfl ?_
    refine lv_ladd hx hb dX3_digest_76 ?_
    refine lv_lstore_n (lv' := [(1, .long (((dgV (dgR 233 (bb sg.1) sg.1.length * 31 + (nI sg.2.1.length).toInt64) sg.2.1 sg.2.1.length) * 31) + ((nI sg.2.2.1.length).toInt64))), (3, .int (nI sg.2.1.length)), (0, .ref (b 0))]) hx hb dX3_digest_77 rfl hl (by decide) rfl (fun ls hl => ?_)
    refine lv_iconst (v := nI 0) hx hb dX3_digest_78 (by decide) ?_
    refine lv_istore_n (lv' := [(3, .int (nI 0)), (1, .long (((dgV (dgR 233 (bb sg.1) sg.1.length * 31 + (nI sg.2.1.length).toInt64) sg.2.1 sg.2.1.length) * 31) + ((nI sg.2.2.1.length).toInt64))), (0, .ref (b 0))]) hx hb dX3_digest_79 rfl hl (by decide) rfl (fun ls hl => ?_)
    refine z_loopM (σ := Nat) (fun q9 => sg.2.2.1.length - q9) (fun q9 ls H locs => lv_has ls 7 [(3, .int (nI q9)), (1, .long (dgQ (dgV (dgR 233 (bb sg.1) sg.1.length * 31 + (nI sg.2.1.length).toInt64) sg.2.1 sg.2.1.length * 31 + (nI sg.2.2.1.length).toInt64) sg.2.2.1 q9)), (0, .ref (b 0))] ∧ Wd D S0 (((b 0), .inr (4, [.int (nI 0), .int (nI sg.1.length), .ref (b 1), .int (nI sg.2.1.length), .ref (b 2), .int (nI sg.2.2.1.length), .ref (b 3), .ref (b 4), .ref (b 5), .ref (mI w), .int (nI sg.2.2.2.2.length), .ref (b 6)])) :: ((b 1), fa cs 400 (mf w)) :: ((b 2), qa cs 2 12 (mg w 0)) :: ((b 3), qa cs 2 12 (mg w 1)) :: ((b 4), qa cs 2 12 (mg w 2)) :: ((b 5), qa cs 2 12 (mg w 3)) :: ((b 6), qa cs 2 20 (mg w 4)) :: Z) H ∧ va_S (SA S0) s.heap H locs ∧ (q9 ≤ sg.2.2.1.length)) 0 ⟨lv_sub hl [0, 1, 2] rfl, hW, hS, (show 0 ≤ sg.2.2.1.length from Nat.zero_le _)⟩ (fun dd80 ih80 y9 ls H locs hd9 hI9 => ?_)
    obtain ⟨j, rfl⟩ : ∃ z, z = y9 := ⟨_, rfl⟩
    have hd80 : sg.2.2.1.length - j = dd80 := hd9
    have hI9 : lv_has ls 7 [(3, .int (nI j)), (1, .long (dgQ (dgV (dgR 233 (bb sg.1) sg.1.length * 31 + (nI sg.2.1.length).toInt64) sg.2.1 sg.2.1.length * 31 + (nI sg.2.2.1.length).toInt64) sg.2.2.1 j)), (0, .ref (b 0))] ∧ Wd D S0 (((b 0), .inr (4, [.int (nI 0), .int (nI sg.1.length), .ref (b 1), .int (nI sg.2.1.length), .ref (b 2), .int (nI sg.2.2.1.length), .ref (b 3), .ref (b 4), .ref (b 5), .ref (mI w), .int (nI sg.2.2.2.2.length), .ref (b 6)])) :: ((b 1), fa cs 400 (mf w)) :: ((b 2), qa cs 2 12 (mg w 0)) :: ((b 3), qa cs 2 12 (mg w 1)) :: ((b 4), qa cs 2 12 (mg w 2)) :: ((b 5), qa cs 2 12 (mg w 3)) :: ((b 6), qa cs 2 20 (mg w 4)) :: Z) H ∧ va_S (SA S0) s.heap H locs ∧ (j ≤ sg.2.2.1.length) := hI9
    obtain ⟨hl, hW, hS, hj⟩ := hI9
    refine lv_iload_n hx hb dX3_digest_80 rfl (lv_at hl 0 rfl) ?_
    refine lv_aload_n hx hb dX3_digest_81 rfl (lv_at hl 2 rfl) ?_
    refine z_get (ci := 4) (v := .int (nI sg.2.2.1.length)) (C := RX3) (T := TX3) (N := 12) hx hb hts in4 hown hK (hW.1 0 _ rfl) rfl 5 (by decide) fl44 (fun _ h9 => h9) rfl dX3_digest_82 ?_
    refine z_icmp_ge (tgt := 159) hx hb (by omega) (by omega) dX3_digest_85 (by decide) (fun hc85 => ?_) (fun hc85 => ?_)
    · skip
      have hc85 : sg.2.2.1.length ≤ j := hc85
      have e9 : j = sg.2.2.1.length := by omega
      rw [e9] at hl
      refine lv_lload_n hx hb dX3_digest_159 rfl (lv_at hl 1 rfl) ?_
      refine lv_aload_n hx hb dX3_digest_160 rfl (lv_at hl 2 rfl) ?_
      refine z_get (ci := 4) (v := .ref (mI w)) (C := RX3) (T := TX3) (N := 12) hx hb hts in4 hown hK (hW.1 0 _ rfl) rfl 9 (by decide) fl27 (fun _ h9 => h9) rfl dX3_digest_161 ?_
      refine lv_aload_n hx hb dX3_digest_164 rfl (lv_at hl 2 rfl) ?_
      refine z_get (ci := 4) (v := .ref (mI w)) (C := RX3) (T := TX3) (N := 12) hx hb hts in4 hown hK (hW.1 0 _ rfl) rfl 9 (by decide) fl27 (fun _ h9 => h9) rfl dX3_digest_165 ?_
      refine z_alen (n := sg.2.2.2.1.length) hx hb hK (hW.mem (List.mem_cons_of_mem _ (List.mem_cons_of_mem _ (List.mem_cons_of_mem _ (List.mem_cons_of_mem _ (List.mem_cons_of_mem _ (List.mem_cons_of_mem _ (List.mem_cons_of_mem _ hF.2.2.2.1)))))))) dX3_digest_168 ?_
      refine z_csSl (As := [.long (dgQ (dgV (dgR 233 (bb sg.1) sg.1.length * 31 + (nI sg.2.1.length).toInt64) sg.2.1 sg.2.1.length * 31 + (nI sg.2.2.1.length).toInt64) sg.2.2.1 sg.2.2.1.length), .ref (mI w), .int (nI sg.2.2.2.1.length)]) (rest := []) ⟨hx, hb, hml, hown, hts⟩ (c_X3_with l D cs (mI w) sg.2.2.2.1.length (bb sg.2.2.2.1) (dgQ (dgV (dgR 233 (bb sg.1) sg.1.length * 31 + (nI sg.2.1.length).toInt64) sg.2.1 sg.2.1.length * 31 + (nI sg.2.2.1.length).toInt64) sg.2.2.1 sg.2.2.1.length) sg.2.2.2.1.length (by omega) (by omega)) (va_cwS 3 hts gX3_digest_X3_with rfl rfl rfl (by decide +kernel) ⟨Nat.le_of_ble_eq_true rfl, Nat.le_of_ble_eq_true rfl⟩) (hW.mem (List.mem_cons_of_mem _ (List.mem_cons_of_mem _ (List.mem_cons_of_mem _ (List.mem_cons_of_mem _ (List.mem_cons_of_mem _ (List.mem_cons_of_mem _ (List.mem_cons_of_mem _ hF.2.2.2.1)))))))) hK rfl hl.1 rfl (Nat.le_of_ble_eq_true rfl) dX3_digest_169 ⟨(by rw [hRc]; omega), (by rw [hRs]; omega)⟩ (fun r hq9 => ?_)
      have hq9 : r = dgR (dgQ (dgV (dgR 233 (bb sg.1) sg.1.length * 31 + (nI sg.2.1.length).toInt64) sg.2.1 sg.2.1.length * 31 + (nI sg.2.2.1.length).toInt64) sg.2.2.1 sg.2.2.1.length) (bb sg.2.2.2.1) sg.2.2.2.1.length := hq9
      subst hq9
      refine lv_ldc2 (v := 31) hx hb hown (hts (.constantLong RX3 123 (31)) (by decide +kernel)) dX3_digest_172 ?_
      refine lv_lmul hx hb dX3_digest_175 ?_
      refine lv_aload_n hx hb dX3_digest_176 rfl (lv_at hl 2 rfl) ?_
      refine z_get (ci := 4) (v := .int (nI sg.2.2.2.2.length)) (C := RX3) (T := TX3) (N := 12) hx hb hts in4 hown hK (hW.1 0 _ rfl) rfl 10 (by decide) fl117 (fun _ h9 => h9) rfl dX3_digest_177 ?_
      refine lv_i2l (v := (nI sg.2.2.2.2.length).toInt64) hx hb dX3_digest_180 rfl ?_
      refine lv_ladd hx hb dX3_digest_181 ?_
      refine W.widen (k := 0) (n := 0) (by omega) (by omega) ?_
      exact W.lret (v := ((dgR (dgQ (dgV (dgR 233 (bb sg.1) sg.1.length * 31 + (nI sg.2.1.length).toInt64) sg.2.1 sg.2.1.length * 31 + (nI sg.2.2.1.length).toInt64) sg.2.2.1 sg.2.2.1.length) (bb sg.2.2.2.1) sg.2.2.2.1.length) * 31) + ((nI sg.2.2.2.2.length).toInt64)) hx hb hr (fun t ht hW9 => ⟨⟨_, (w, []), rfl, ⟨rfl, hF⟩, (by show Wd D S0 _ _; rw [ht]; exact hW)⟩, hS.F ht⟩) (fun q9 h9 => hS.2.2 q9 h9) dX3_digest_182
    · skip
      have hc85 : j < sg.2.2.1.length := hc85
      refine lv_aload_n hx hb dX3_digest_88 rfl (lv_at hl 2 rfl) ?_
      refine lv_iload_n hx hb dX3_digest_89 rfl (lv_at hl 0 rfl) ?_
      have hjl := (hok.2.2.1.2 j (by omega)).2.1.1
      have hmn : manyN (rf (psN sg.2.2.1 j).2.2) (psN sg.2.2.1 j).2.1.length ≤ (psN sg.2.2.1 j).2.1.length := ct_le _ _
      refine z_csV (As := [.int (nI j)]) (rest := []) ⟨hx, hb, hml, hown, hts⟩ (c_X3_many l D cs (b 0) (b 5) sg.2.2.1.length [.int (nI 0), .int (nI sg.1.length), .ref (b 1), .int (nI sg.2.1.length), .ref (b 2), .int (nI sg.2.2.1.length), .ref (b 3), .ref (b 4), .ref (b 5), .ref (mI w), .int (nI sg.2.2.2.2.length), .ref (b 6)] (mg w 3) rfl j (by omega) hnp (mA w 3 j) (psN sg.2.2.1 j).2.1.length (hF.2.2.1 j (by omega)).2.2.1 (rf (psN sg.2.2.1 j).2.2) (by omega)) (cwV 1 hts gX3_digest_X3_many rfl rfl rfl (by decide +kernel) ⟨Nat.le_of_ble_eq_true rfl, Nat.le_of_ble_eq_true rfl⟩) (hW.1 0 _ rfl) rfl ⟨(hW.1 0 _ rfl), (hW.1 5 _ rfl), (hW.mem (List.mem_cons_of_mem _ (List.mem_cons_of_mem _ (List.mem_cons_of_mem _ (List.mem_cons_of_mem _ (List.mem_cons_of_mem _ (List.mem_cons_of_mem _ (List.mem_cons_of_mem _ (hF.2.2.1 j (by omega)).2.2.2))))))))⟩ hK rfl hl.1 rfl (Nat.le_of_ble_eq_true rfl) dX3_digest_90 ⟨(by rw [hRc]; omega), (by rw [hRs]; omega)⟩ (fun r hq9 => ?_)
      have hq9 : r = nI (manyN (rf (psN sg.2.2.1 j).2.2) (psN sg.2.2.1 j).2.1.length) := hq9
      subst hq9
      refine lv_istore (lv' := [(4, .int (nI (manyN (rf (psN sg.2.2.1 j).2.2) (psN sg.2.2.1 j).2.1.length))), (3, .int (nI j)), (1, .long (dgQ (dgV (dgR 233 (bb sg.1) sg.1.length * 31 + (nI sg.2.1.length).toInt64) sg.2.1 sg.2.1.length * 31 + (nI sg.2.2.1.length).toInt64) sg.2.2.1 j)), (0, .ref (b 0))]) hx hb dX3_digest_93 hl (by decide) rfl (fun ls hl => ?_)
      refine lv_lload_n hx hb dX3_digest_95 rfl (lv_at hl 2 rfl) ?_
      refine lv_ldc2 (v := 31) hx hb hown (hts (.constantLong RX3 123 (31)) (by decide +kernel)) dX3_digest_96 ?_
      refine lv_lmul hx hb dX3_digest_99 ?_
      refine lv_iload hx hb dX3_digest_100 (lv_at hl 0 rfl) ?_
      refine lv_i2l (v := (nI (manyN (rf (psN sg.2.2.1 j).2.2) (psN sg.2.2.1 j).2.1.length)).toInt64) hx hb dX3_digest_102 rfl ?_
      refine lv_ladd hx hb dX3_digest_103 ?_
      refine lv_lstore_n (lv' := [(1, .long (((dgQ (dgV (dgR 233 (bb sg.1) sg.1.length * 31 + (nI sg.2.1.length).toInt64) sg.2.1 sg.2.1.length * 31 + (nI sg.2.2.1.length).toInt64) sg.2.2.1 j) * 31) + ((nI (manyN (rf (psN sg.2.2.1 j).2.2) (psN sg.2.2.1 j).2.1.length)).toInt64))), (4, .int (nI (manyN (rf (psN sg.2.2.1 j).2.2) (psN sg.2.2.1 j).2.1.length))), (3, .int (nI j)), (0, .ref (b 0))]) hx hb dX3_digest_104 rfl hl (by decide) rfl (fun ls hl => ?_)
      refine lv_iconst (v := nI 0) hx hb dX3_digest_105 (by decide) ?_
      refine lv_istore (lv' := [(5, .int (nI 0)), (1, .long (((dgQ (dgV (dgR 233 (bb sg.1) sg.1.length * 31 + (nI sg.2.1.length).toInt64) sg.2.1 sg.2.1.length * 31 + (nI sg.2.2.1.length).toInt64) sg.2.2.1 j) * 31) + ((nI (manyN (rf (psN sg.2.2.1 j).2.2) (psN sg.2.2.1 j).2.1.length)).toInt64))), (4, .int (nI (manyN (rf (psN sg.2.2.1 j).2.2) (psN sg.2.2.1 j).2.1.length))), (3, .int (nI j)), (0, .ref (b 0))]) hx hb dX3_digest_106 hl (by decide) rfl (fun ls hl => ?_)
      refine z_loopM (σ := Nat) (fun q9 => manyN (rf (psN sg.2.2.1 j).2.2) (psN sg.2.2.1 j).2.1.length - q9) (fun q9 ls H locs => lv_has ls 7 [(5, .int (nI q9)), (1, .long (dgI (dgQ (dgV (dgR 233 (bb sg.1) sg.1.length * 31 + (nI sg.2.1.length).toInt64) sg.2.1 sg.2.1.length * 31 + (nI sg.2.2.1.length).toInt64) sg.2.2.1 j * 31 + (nI (manyN (rf (psN sg.2.2.1 j).2.2) (psN sg.2.2.1 j).2.1.length)).toInt64) (tellI (rf (psN sg.2.2.1 j).2.2) (bv (psN sg.2.2.1 j).2.1) (psN sg.2.2.1 j).2.1.length) q9)), (3, .int (nI j)), (4, .int (nI (manyN (rf (psN sg.2.2.1 j).2.2) (psN sg.2.2.1 j).2.1.length))), (0, .ref (b 0))] ∧ Wd D S0 (((b 0), .inr (4, [.int (nI 0), .int (nI sg.1.length), .ref (b 1), .int (nI sg.2.1.length), .ref (b 2), .int (nI sg.2.2.1.length), .ref (b 3), .ref (b 4), .ref (b 5), .ref (mI w), .int (nI sg.2.2.2.2.length), .ref (b 6)])) :: ((b 1), fa cs 400 (mf w)) :: ((b 2), qa cs 2 12 (mg w 0)) :: ((b 3), qa cs 2 12 (mg w 1)) :: ((b 4), qa cs 2 12 (mg w 2)) :: ((b 5), qa cs 2 12 (mg w 3)) :: ((b 6), qa cs 2 20 (mg w 4)) :: Z) H ∧ va_S (SA S0) s.heap H locs ∧ (q9 ≤ manyN (rf (psN sg.2.2.1 j).2.2) (psN sg.2.2.1 j).2.1.length)) 0 ⟨lv_sub hl [0, 1, 3, 2, 4] rfl, hW, hS, (show 0 ≤ manyN (rf (psN sg.2.2.1 j).2.2) (psN sg.2.2.1 j).2.1.length from Nat.zero_le _)⟩ (fun dd108 ih108 y9 ls H locs hd9 hI9 => ?_)
      obtain ⟨iq, rfl⟩ : ∃ z, z = y9 := ⟨_, rfl⟩
      have hd108 : manyN (rf (psN sg.2.2.1 j).2.2) (psN sg.2.2.1 j).2.1.length - iq = dd108 := hd9
      have hI9 : lv_has ls 7 [(5, .int (nI iq)), (1, .long (dgI (dgQ (dgV (dgR 233 (bb sg.1) sg.1.length * 31 + (nI sg.2.1.length).toInt64) sg.2.1 sg.2.1.length * 31 + (nI sg.2.2.1.length).toInt64) sg.2.2.1 j * 31 + (nI (manyN (rf (psN sg.2.2.1 j).2.2) (psN sg.2.2.1 j).2.1.length)).toInt64) (tellI (rf (psN sg.2.2.1 j).2.2) (bv (psN sg.2.2.1 j).2.1) (psN sg.2.2.1 j).2.1.length) iq)), (3, .int (nI j)), (4, .int (nI (manyN (rf (psN sg.2.2.1 j).2.2) (psN sg.2.2.1 j).2.1.length))), (0, .ref (b 0))] ∧ Wd D S0 (((b 0), .inr (4, [.int (nI 0), .int (nI sg.1.length), .ref (b 1), .int (nI sg.2.1.length), .ref (b 2), .int (nI sg.2.2.1.length), .ref (b 3), .ref (b 4), .ref (b 5), .ref (mI w), .int (nI sg.2.2.2.2.length), .ref (b 6)])) :: ((b 1), fa cs 400 (mf w)) :: ((b 2), qa cs 2 12 (mg w 0)) :: ((b 3), qa cs 2 12 (mg w 1)) :: ((b 4), qa cs 2 12 (mg w 2)) :: ((b 5), qa cs 2 12 (mg w 3)) :: ((b 6), qa cs 2 20 (mg w 4)) :: Z) H ∧ va_S (SA S0) s.heap H locs ∧ (iq ≤ manyN (rf (psN sg.2.2.1 j).2.2) (psN sg.2.2.1 j).2.1.length) := hI9
      obtain ⟨hl, hW, hS, hi9⟩ := hI9
      refine lv_iload hx hb dX3_digest_108 (lv_at hl 0 rfl) ?_
      refine lv_iload hx hb dX3_digest_110 (lv_at hl 3 rfl) ?_
      refine z_icmp_ge (tgt := 153) hx hb (by omega) (by omega) dX3_digest_112 (by decide) (fun hc112 => ?_) (fun hc112 => ?_)
      · skip
        have hc112 : manyN (rf (psN sg.2.2.1 j).2.2) (psN sg.2.2.1 j).2.1.length ≤ iq := hc112
        have e9 : iq = manyN (rf (psN sg.2.2.1 j).2.2) (psN sg.2.2.1 j).2.1.length := by omega
        rw [e9] at hl
        refine lv_iinc (v := nI (j + 1)) (lv' := [(3, .int (nI (j + 1))), (5, .int (nI (manyN (rf (psN sg.2.2.1 j).2.2) (psN sg.2.2.1 j).2.1.length))), (1, .long (dgI (dgQ (dgV (dgR 233 (bb sg.1) sg.1.length * 31 + (nI sg.2.1.length).toInt64) sg.2.1 sg.2.1.length * 31 + (nI sg.2.2.1.length).toInt64) sg.2.2.1 j * 31 + (nI (manyN (rf (psN sg.2.2.1 j).2.2) (psN sg.2.2.1 j).2.1.length)).toInt64) (tellI (rf (psN sg.2.2.1 j).2.2) (bv (psN sg.2.2.1 j).2.1) (psN sg.2.2.1 j).2.1.length) (manyN (rf (psN sg.2.2.1 j).2.2) (psN sg.2.2.1 j).2.1.length))), (4, .int (nI (manyN (rf (psN sg.2.2.1 j).2.2) (psN sg.2.2.1 j).2.1.length))), (0, .ref (b 0))]) hx hb dX3_digest_153 hl (k := 2) rfl (z_inc _) (by decide) rfl (fun ls hl => ?_)
        refine lv_goto (tgt := 80) hx hb dX3_digest_156 (by decide) ?_
        exact ih80 (j + 1) ls H locs (show sg.2.2.1.length - (j + 1) < dd80 by omega) ⟨lv_sub hl [0, 2, 4] rfl, hW, hS, (show (j + 1) ≤ sg.2.2.1.length from by omega)⟩
      · skip
        have hc112 : iq < manyN (rf (psN sg.2.2.1 j).2.2) (psN sg.2.2.1 j).2.1.length := hc112
        refine lv_iconst (v := nI 0) hx hb dX3_digest_115 (by decide) ?_
        refine lv_istore (lv' := [(6, .int (nI 0)), (5, .int (nI iq)), (1, .long (dgI (dgQ (dgV (dgR 233 (bb sg.1) sg.1.length * 31 + (nI sg.2.1.length).toInt64) sg.2.1 sg.2.1.length * 31 + (nI sg.2.2.1.length).toInt64) sg.2.2.1 j * 31 + (nI (manyN (rf (psN sg.2.2.1 j).2.2) (psN sg.2.2.1 j).2.1.length)).toInt64) (tellI (rf (psN sg.2.2.1 j).2.2) (bv (psN sg.2.2.1 j).2.1) (psN sg.2.2.1 j).2.1.length) iq)), (3, .int (nI j)), (4, .int (nI (manyN (rf (psN sg.2.2.1 j).2.2) (psN sg.2.2.1 j).2.1.length))), (0, .ref (b 0))]) hx hb dX3_digest_116 hl (by decide) rfl (fun ls hl => ?_)
        refine z_loopM (σ := Nat) (fun q9 => 4 - q9) (fun q9 ls H locs => lv_has ls 7 [(6, .int (nI q9)), (1, .long (dgT (dgI (dgQ (dgV (dgR 233 (bb sg.1) sg.1.length * 31 + (nI sg.2.1.length).toInt64) sg.2.1 sg.2.1.length * 31 + (nI sg.2.2.1.length).toInt64) sg.2.2.1 j * 31 + (nI (manyN (rf (psN sg.2.2.1 j).2.2) (psN sg.2.2.1 j).2.1.length)).toInt64) (tellI (rf (psN sg.2.2.1 j).2.2) (bv (psN sg.2.2.1 j).2.1) (psN sg.2.2.1 j).2.1.length) iq) (tellI (rf (psN sg.2.2.1 j).2.2) (bv (psN sg.2.2.1 j).2.1) (psN sg.2.2.1 j).2.1.length) iq q9)), (5, .int (nI iq)), (3, .int (nI j)), (4, .int (nI (manyN (rf (psN sg.2.2.1 j).2.2) (psN sg.2.2.1 j).2.1.length))), (0, .ref (b 0))] ∧ Wd D S0 (((b 0), .inr (4, [.int (nI 0), .int (nI sg.1.length), .ref (b 1), .int (nI sg.2.1.length), .ref (b 2), .int (nI sg.2.2.1.length), .ref (b 3), .ref (b 4), .ref (b 5), .ref (mI w), .int (nI sg.2.2.2.2.length), .ref (b 6)])) :: ((b 1), fa cs 400 (mf w)) :: ((b 2), qa cs 2 12 (mg w 0)) :: ((b 3), qa cs 2 12 (mg w 1)) :: ((b 4), qa cs 2 12 (mg w 2)) :: ((b 5), qa cs 2 12 (mg w 3)) :: ((b 6), qa cs 2 20 (mg w 4)) :: Z) H ∧ va_S (SA S0) s.heap H locs ∧ (q9 ≤ 4)) 0 ⟨lv_sub hl [0, 2, 1, 3, 4, 5] rfl, hW, hS, (show 0 ≤ 4 from by omega)⟩ (fun dd118 ih118 y9 ls H locs hd9 hI9 => ?_)
        obtain ⟨wq, rfl⟩ : ∃ z, z = y9 := ⟨_, rfl⟩
        have hd118 : 4 - wq = dd118 := hd9
        have hI9 : lv_has ls 7 [(6, .int (nI wq)), (1, .long (dgT (dgI (dgQ (dgV (dgR 233 (bb sg.1) sg.1.length * 31 + (nI sg.2.1.length).toInt64) sg.2.1 sg.2.1.length * 31 + (nI sg.2.2.1.length).toInt64) sg.2.2.1 j * 31 + (nI (manyN (rf (psN sg.2.2.1 j).2.2) (psN sg.2.2.1 j).2.1.length)).toInt64) (tellI (rf (psN sg.2.2.1 j).2.2) (bv (psN sg.2.2.1 j).2.1) (psN sg.2.2.1 j).2.1.length) iq) (tellI (rf (psN sg.2.2.1 j).2.2) (bv (psN sg.2.2.1 j).2.1) (psN sg.2.2.1 j).2.1.length) iq wq)), (5, .int (nI iq)), (3, .int (nI j)), (4, .int (nI (manyN (rf (psN sg.2.2.1 j).2.2) (psN sg.2.2.1 j).2.1.length))), (0, .ref (b 0))] ∧ Wd D S0 (((b 0), .inr (4, [.int (nI 0), .int (nI sg.1.length), .ref (b 1), .int (nI sg.2.1.length), .ref (b 2), .int (nI sg.2.2.1.length), .ref (b 3), .ref (b 4), .ref (b 5), .ref (mI w), .int (nI sg.2.2.2.2.length), .ref (b 6)])) :: ((b 1), fa cs 400 (mf w)) :: ((b 2), qa cs 2 12 (mg w 0)) :: ((b 3), qa cs 2 12 (mg w 1)) :: ((b 4), qa cs 2 12 (mg w 2)) :: ((b 5), qa cs 2 12 (mg w 3)) :: ((b 6), qa cs 2 20 (mg w 4)) :: Z) H ∧ va_S (SA S0) s.heap H locs ∧ (wq ≤ 4) := hI9
        obtain ⟨hl, hW, hS, hw9⟩ := hI9
        refine lv_iload hx hb dX3_digest_118 (lv_at hl 0 rfl) ?_
        refine lv_iconst (v := nI 4) hx hb dX3_digest_120 (by decide) ?_
        refine z_icmp_ge (tgt := 147) hx hb (by omega) (by omega) dX3_digest_121 (by decide) (fun hc121 => ?_) (fun hc121 => ?_)
        · skip
          have hc121 : 4 ≤ wq := hc121
          have e9 : wq = 4 := by omega
          rw [e9] at hl
          refine lv_iinc (v := nI (iq + 1)) (lv' := [(5, .int (nI (iq + 1))), (6, .int (nI 4)), (1, .long (dgT (dgI (dgQ (dgV (dgR 233 (bb sg.1) sg.1.length * 31 + (nI sg.2.1.length).toInt64) sg.2.1 sg.2.1.length * 31 + (nI sg.2.2.1.length).toInt64) sg.2.2.1 j * 31 + (nI (manyN (rf (psN sg.2.2.1 j).2.2) (psN sg.2.2.1 j).2.1.length)).toInt64) (tellI (rf (psN sg.2.2.1 j).2.2) (bv (psN sg.2.2.1 j).2.1) (psN sg.2.2.1 j).2.1.length) iq) (tellI (rf (psN sg.2.2.1 j).2.2) (bv (psN sg.2.2.1 j).2.1) (psN sg.2.2.1 j).2.1.length) iq 4)), (3, .int (nI j)), (4, .int (nI (manyN (rf (psN sg.2.2.1 j).2.2) (psN sg.2.2.1 j).2.1.length))), (0, .ref (b 0))]) hx hb dX3_digest_147 hl (k := 2) rfl (z_inc _) (by decide) rfl (fun ls hl => ?_)
          refine lv_goto (tgt := 108) hx hb dX3_digest_150 (by decide) ?_
          exact ih108 (iq + 1) ls H locs (show manyN (rf (psN sg.2.2.1 j).2.2) (psN sg.2.2.1 j).2.1.length - (iq + 1) < dd108 by omega) ⟨lv_sub hl [0, 2, 3, 4, 5] rfl, hW, hS, (show (iq + 1) ≤ manyN (rf (psN sg.2.2.1 j).2.2) (psN sg.2.2.1 j).2.1.length from by omega)⟩
        · skip
          have hc121 : wq < 4 := hc121
          refine lv_lload_n hx hb dX3_digest_124 rfl (lv_at hl 1 rfl) ?_
          refine lv_ldc2 (v := 31) hx hb hown (hts (.constantLong RX3 123 (31)) (by decide +kernel)) dX3_digest_125 ?_
          refine lv_lmul hx hb dX3_digest_128 ?_
          refine lv_aload_n hx hb dX3_digest_129 rfl (lv_at hl 5 rfl) ?_
          refine lv_iload_n hx hb dX3_digest_130 rfl (lv_at hl 3 rfl) ?_
          refine lv_iload hx hb dX3_digest_131 (lv_at hl 2 rfl) ?_
          refine lv_iload hx hb dX3_digest_133 (lv_at hl 0 rfl) ?_
          refine z_csV (As := [.int (nI j), .int (nI iq), .int (nI wq)]) (rest := [.long ((dgT (dgI (dgQ (dgV (dgR 233 (bb sg.1) sg.1.length * 31 + (nI sg.2.1.length).toInt64) sg.2.1 sg.2.1.length * 31 + (nI sg.2.2.1.length).toInt64) sg.2.2.1 j * 31 + (nI (manyN (rf (psN sg.2.2.1 j).2.2) (psN sg.2.2.1 j).2.1.length)).toInt64) (tellI (rf (psN sg.2.2.1 j).2.2) (bv (psN sg.2.2.1 j).2.1) (psN sg.2.2.1 j).2.1.length) iq) (tellI (rf (psN sg.2.2.1 j).2.2) (bv (psN sg.2.2.1 j).2.1) (psN sg.2.2.1 j).2.1.length) iq wq) * 31)]) ⟨hx, hb, hml, hown, hts⟩ (c_X3_told l D cs (b 0) (b 5) (b 4) sg.2.2.1.length [.int (nI 0), .int (nI sg.1.length), .ref (b 1), .int (nI sg.2.1.length), .ref (b 2), .int (nI sg.2.2.1.length), .ref (b 3), .ref (b 4), .ref (b 5), .ref (mI w), .int (nI sg.2.2.2.2.length), .ref (b 6)] (mg w 3) (mg w 2) rfl rfl j (by omega) hnp (mA w 3 j) (mA w 2 j) (psN sg.2.2.1 j).2.1.length (hF.2.2.1 j (by omega)).2.2.1 (hF.2.2.1 j (by omega)).2.1.1 (rf (psN sg.2.2.1 j).2.2) (bv (psN sg.2.2.1 j).2.1) (hok.2.2.1.2 j (by omega)).2.1.2 iq (by omega) wq (by omega) (hok.2.2.1.2 j (by omega)).2.1.1) (cwV 3 hts gX3_digest_X3_told rfl rfl rfl (by decide +kernel) ⟨Nat.le_of_ble_eq_true rfl, Nat.le_of_ble_eq_true rfl⟩) (hW.1 0 _ rfl) rfl ⟨(hW.1 0 _ rfl), (hW.1 5 _ rfl), (hW.mem (List.mem_cons_of_mem _ (List.mem_cons_of_mem _ (List.mem_cons_of_mem _ (List.mem_cons_of_mem _ (List.mem_cons_of_mem _ (List.mem_cons_of_mem _ (List.mem_cons_of_mem _ (hF.2.2.1 j (by omega)).2.2.2)))))))), (hW.1 4 _ rfl), (hW.mem (List.mem_cons_of_mem _ (List.mem_cons_of_mem _ (List.mem_cons_of_mem _ (List.mem_cons_of_mem _ (List.mem_cons_of_mem _ (List.mem_cons_of_mem _ (List.mem_cons_of_mem _ (hF.2.2.1 j (by omega)).2.1.2))))))))⟩ hK rfl hl.1 rfl (Nat.le_of_ble_eq_true rfl) dX3_digest_135 ⟨(by rw [hRc]; omega), (by rw [hRs]; omega)⟩ (fun r hq9 => ?_)
          have hq9 : r = tellI (rf (psN sg.2.2.1 j).2.2) (bv (psN sg.2.2.1 j).2.1) (psN sg.2.2.1 j).2.1.length iq wq := hq9
          subst hq9
          refine lv_i2l (v := (tellI (rf (psN sg.2.2.1 j).2.2) (bv (psN sg.2.2.1 j).2.1) (psN sg.2.2.1 j).2.1.length iq wq).toInt64) hx hb dX3_digest_138 rfl ?_
          refine lv_ladd hx hb dX3_digest_139 ?_
          refine lv_lstore_n (lv' := [(1, .long (((dgT (dgI (dgQ (dgV (dgR 233 (bb sg.1) sg.1.length * 31 + (nI sg.2.1.length).toInt64) sg.2.1 sg.2.1.length * 31 + (nI sg.2.2.1.length).toInt64) sg.2.2.1 j * 31 + (nI (manyN (rf (psN sg.2.2.1 j).2.2) (psN sg.2.2.1 j).2.1.length)).toInt64) (tellI (rf (psN sg.2.2.1 j).2.2) (bv (psN sg.2.2.1 j).2.1) (psN sg.2.2.1 j).2.1.length) iq) (tellI (rf (psN sg.2.2.1 j).2.2) (bv (psN sg.2.2.1 j).2.1) (psN sg.2.2.1 j).2.1.length) iq wq) * 31) + ((tellI (rf (psN sg.2.2.1 j).2.2) (bv (psN sg.2.2.1 j).2.1) (psN sg.2.2.1 j).2.1.length iq wq).toInt64))), (6, .int (nI wq)), (5, .int (nI iq)), (3, .int (nI j)), (4, .int (nI (manyN (rf (psN sg.2.2.1 j).2.2) (psN sg.2.2.1 j).2.1.length))), (0, .ref (b 0))]) hx hb dX3_digest_140 rfl hl (by decide) rfl (fun ls hl => ?_)
          refine lv_iinc (v := nI (wq + 1)) (lv' := [(6, .int (nI (wq + 1))), (1, .long (((dgT (dgI (dgQ (dgV (dgR 233 (bb sg.1) sg.1.length * 31 + (nI sg.2.1.length).toInt64) sg.2.1 sg.2.1.length * 31 + (nI sg.2.2.1.length).toInt64) sg.2.2.1 j * 31 + (nI (manyN (rf (psN sg.2.2.1 j).2.2) (psN sg.2.2.1 j).2.1.length)).toInt64) (tellI (rf (psN sg.2.2.1 j).2.2) (bv (psN sg.2.2.1 j).2.1) (psN sg.2.2.1 j).2.1.length) iq) (tellI (rf (psN sg.2.2.1 j).2.2) (bv (psN sg.2.2.1 j).2.1) (psN sg.2.2.1 j).2.1.length) iq wq) * 31) + ((tellI (rf (psN sg.2.2.1 j).2.2) (bv (psN sg.2.2.1 j).2.1) (psN sg.2.2.1 j).2.1.length iq wq).toInt64))), (5, .int (nI iq)), (3, .int (nI j)), (4, .int (nI (manyN (rf (psN sg.2.2.1 j).2.2) (psN sg.2.2.1 j).2.1.length))), (0, .ref (b 0))]) hx hb dX3_digest_141 hl (k := 1) rfl (z_inc _) (by decide) rfl (fun ls hl => ?_)
          refine lv_goto (tgt := 118) hx hb dX3_digest_144 (by decide) ?_
          exact ih118 (wq + 1) ls H locs (show 4 - (wq + 1) < dd118 by omega) ⟨lv_sub hl [0, 1, 2, 3, 4, 5] rfl, hW, hS, (show (wq + 1) ≤ 4 from by omega)⟩
  · skip
    have hc39 : k < sg.2.1.length := hc39
    refine lv_lload_n hx hb dX3_digest_42 rfl (lv_at hl 1 rfl) ?_
    refine lv_aload_n hx hb dX3_digest_43 rfl (lv_at hl 2 rfl) ?_
    refine z_get (ci := 4) (v := .ref (b 2)) (C := RX3) (T := TX3) (N := 12) hx hb hts in4 hown hK (hW.1 0 _ rfl) rfl 4 (by decide) fl14 (fun _ h9 => h9) rfl dX3_digest_44 ?_
    refine lv_iload_n hx hb dX3_digest_47 rfl (lv_at hl 0 rfl) ?_
    refine z_aald (k := k) (y := (mA w 0 k)) (t0 := 2) hx hb hK (hW.1 2 _ rfl) rfl rfl (by omega) (by omega) (hF.2.1 k (by omega)).1 dX3_digest_48 ?_
    refine lv_aload_n hx hb dX3_digest_49 rfl (lv_at hl 2 rfl) ?_
    refine z_get (ci := 4) (v := .ref (b 2)) (C := RX3) (T := TX3) (N := 12) hx hb hts in4 hown hK (hW.1 0 _ rfl) rfl 4 (by decide) fl14 (fun _ h9 => h9) rfl dX3_digest_50 ?_
    refine lv_iload_n hx hb dX3_digest_53 rfl (lv_at hl 0 rfl) ?_
    refine z_aald (k := k) (y := (mA w 0 k)) (t0 := 2) hx hb hK (hW.1 2 _ rfl) rfl rfl (by omega) (by omega) (hF.2.1 k (by omega)).1 dX3_digest_54 ?_
    refine z_alen (n := ((vsN sg.2.1 k).length)) hx hb hK (hW.mem (List.mem_cons_of_mem _ (List.mem_cons_of_mem _ (List.mem_cons_of_mem _ (List.mem_cons_of_mem _ (List.mem_cons_of_mem _ (List.mem_cons_of_mem _ (List.mem_cons_of_mem _ (hF.2.1 k (by omega)).2)))))))) dX3_digest_55 ?_
    have hkl := (hok.2.1.2 k (by omega)).1
    refine z_csSl (As := [.long (dgV (dgR 233 (bb sg.1) sg.1.length * 31 + (nI sg.2.1.length).toInt64) sg.2.1 k), .ref (mA w 0 k), .int (nI ((vsN sg.2.1 k).length))]) (rest := []) ⟨hx, hb, hml, hown, hts⟩ (c_X3_with l D cs (mA w 0 k) (vsN sg.2.1 k).length (bb (vsN sg.2.1 k)) (dgV (dgR 233 (bb sg.1) sg.1.length * 31 + (nI sg.2.1.length).toInt64) sg.2.1 k) (vsN sg.2.1 k).length (by omega) (by omega)) (va_cwS 3 hts gX3_digest_X3_with rfl rfl rfl (by decide +kernel) ⟨Nat.le_of_ble_eq_true rfl, Nat.le_of_ble_eq_true rfl⟩) (hW.mem (List.mem_cons_of_mem _ (List.mem_cons_of_mem _ (List.mem_cons_of_mem _ (List.mem_cons_of_mem _ (List.mem_cons_of_mem _ (List.mem_cons_of_mem _ (List.mem_cons_of_mem _ (hF.2.1 k (by omega)).2)))))))) hK rfl hl.1 rfl (Nat.le_of_ble_eq_true rfl) dX3_digest_56 ⟨(by rw [hRc]; omega), (by rw [hRs]; omega)⟩ (fun r hq9 => ?_)
    have hq9 : r = dgR (dgV (dgR 233 (bb sg.1) sg.1.length * 31 + (nI sg.2.1.length).toInt64) sg.2.1 k) (bb (vsN sg.2.1 k)) (vsN sg.2.1 k).length := hq9
    subst hq9
    refine lv_lstore_n (lv' := [(1, .long (dgR (dgV (dgR 233 (bb sg.1) sg.1.length * 31 + (nI sg.2.1.length).toInt64) sg.2.1 k) (bb (vsN sg.2.1 k)) (vsN sg.2.1 k).length)), (3, .int (nI k)), (0, .ref (b 0))]) hx hb dX3_digest_59 rfl hl (by decide) rfl (fun ls hl => ?_)
    refine lv_iinc (v := nI (k + 1)) (lv' := [(3, .int (nI (k + 1))), (1, .long (dgR (dgV (dgR 233 (bb sg.1) sg.1.length * 31 + (nI sg.2.1.length).toInt64) sg.2.1 k) (bb (vsN sg.2.1 k)) (vsN sg.2.1 k).length)), (0, .ref (b 0))]) hx hb dX3_digest_60 hl (k := 1) rfl (z_inc _) (by decide) rfl (fun ls hl => ?_)
    refine lv_goto (tgt := 34) hx hb dX3_digest_63 (by decide) ?_
    exact ih34 (k + 1) ls H locs (show sg.2.1.length - (k + 1) < dd34 by omega) ⟨lv_sub hl [0, 1, 2] rfl, hW, hS, (show (k + 1) ≤ sg.2.1.length from by omega)⟩

