/-! difference and compose -/
set_option maxHeartbeats 4000000 in
set_option maxRecDepth 100000 in
theorem c_X2_difference (l : Launch) (D : va_G) (cs : Nat → ClassId) (S0 : Nat) (ea mi : Nat) (sa : Nat → Nat) (Y : va_W) (a : Nat → Nat) (u : XU) (sg : St) (hF : XF cs ea u sg Y) (v9 w9 size : Nat) (hv9 : v9 < sg.2.1.length) (hw9 : w9 < sg.2.1.length) (h2 : 2 ≤ size) (h3 : size ≤ 32) (hroom : sg.2.2.1.length < 12) : Met l yX2_difference wsX2_difference ({ frames := 7, cells := 5, slots := 1607, locals := 171 }) (zE [.ref (a 0), .int (nI v9), .int (nI w9), .int (nI size)] (fun H => Wd D S0 (XW cs a u sg Y) H) D cs S0 ea mi sa) (va_Qi (fun r (v : XU × va_W) => r = nI sg.2.2.1.length ∧ XF cs ea v.1 (stP sg (((vsN sg.2.1 v9), (vsN sg.2.1 w9), ((List.range (vsN sg.2.1 w9).length).map (difO (BT (bb (vsN sg.2.1 v9)) (vsN sg.2.1 v9).length (bb (vsN sg.2.1 w9)) (vsN sg.2.1 w9).length size) size))) : Pt)) (v.2 ++ Y)) (fun v t => Wd D S0 (XW cs a v.1 (stP sg (((vsN sg.2.1 v9), (vsN sg.2.1 w9), ((List.range (vsN sg.2.1 w9).length).map (difO (BT (bb (vsN sg.2.1 v9)) (vsN sg.2.1 v9).length (bb (vsN sg.2.1 w9)) (vsN sg.2.1 w9).length size) size))) : Pt)) (v.2 ++ Y)) t.heap) (SA S0)) 5 1607 (SA S0) := by
  refine Met.ofW (cc := cX2_difference) (maxL := 7) (ret := (some .int)) (by decide) rfl ?_
  intro p e s m args below meth c s₁ B hml hv
  obtain ⟨rfl, hW, hK, hE⟩ := hv
  have hx := B.exec
  have hb := B.bytes
  have hr := B.returns
  have hts := atoms_spec (ws := wsX2_difference) B.pre
  have hown : s.vm.findClass RX2 = some m.cls := findClass_of_methodNamed B.named
  have hlocks := B.notSynchronized
  have hRc : (headSpec wsX2_difference ({ frames := 7, cells := 5, slots := 1607, locals := 171 })).room.cells = 5 := rfl
  have hRs : (headSpec wsX2_difference ({ frames := 7, cells := 5, slots := 1607, locals := 171 })).room.slots = 1607 := rfl
  have fl24 := hts (.fieldLink RX2 24 "DeltaUpdater" "made" "Ljava/util/ArrayList;") (by decide +kernel)
  have in1 : ∀ w ∈ u_ws RX0 TX0 7, w ∈ wsX2_difference := by decide +kernel
  have in3 : ∀ w ∈ u_ws RX2 TX2 8, w ∈ wsX2_difference := by decide +kernel
  have hW : Wd D S0 (XW cs a u sg Y) s.heap := hW
  have hS0 : S0 ≤ s.heap.size := hW.2.2
  have hS : va_S (SA S0) s.heap s.heap [] := va_S.rf
  have hl := lv_entry ([.ref (a 0), .int (nI v9), .int (nI w9), .int (nI size)]) (n := 7) (Nat.le_of_ble_eq_true rfl)
  rw [lg_entry_eq]
  generalize (lg_sl ([.ref (a 0), .int (nI v9), .int (nI w9), .int (nI size)]) ++ List.replicate (7 - (lg_sl ([.ref (a 0), .int (nI v9), .int (nI w9), .int (nI size)])).length) Slot.unset).toArray = ls at hl ⊢
  have hl : lv_has ls 7 [(0, .ref (a 0)), (1, .int (nI v9)), (2, .int (nI w9)), (3, .int (nI size))] := hl
  obtain ⟨fbf, fl0, fl1, fl2, frw, fpt, fin, fhi, hok⟩ := id hF
  obtain ⟨hx0, hbf, hbc, hls, hlm, hlh, hrw, hpt, hin, hhr, -⟩ := XH.of (Y := Y) hW hF
  have hbl := hok.1.1
  have hnv := hok.2.1.1
  have hnp := hok.2.2.1.1
  have hnh := hok.2.2.2.2.1
  have hnw := (hok.2.1.2 w9 hw9).1
  have hfv := (FI_flN hok.2.1.2 hv9).1.1
  have hfw := (FI_flN hok.2.1.2 hw9).1.1
  refine lv_aload_n hx hb dX2_difference_0 rfl (lv_at hl 0 rfl) ?_
  refine lv_iload_n hx hb dX2_difference_1 rfl (lv_at hl 1 rfl) ?_
  refine z_ceRV (As := [.int (nI v9)]) (rest := []) ⟨hx, hb, hml, hown, hts⟩ (c_X2_rowOf l D cs S0 ea mi sa a u sg v9 hv9) (cwV 1 hts gX2_difference_X2_rowOf rfl rfl rfl (by decide +kernel) ⟨Nat.le_of_ble_eq_true rfl, Nat.le_of_ble_eq_true rfl⟩) (hW.1 0 _ rfl) rfl ⟨hx0, hbf, hbc, hls, hlm, hlh, hrw, hpt, hin, hhr, hok⟩ hK hE hS rfl hl.1 rfl (Nat.le_of_ble_eq_true rfl) dX2_difference_2 ⟨(by rw [hRc]; omega), (by rw [hRs]; omega)⟩ (fun r hq9 => ?_)
  have hq9 : r = (xR u 0 v9) := hq9
  subst hq9
  refine lv_astore (lv' := [(4, .ref (xR u 0 v9)), (0, .ref (a 0)), (1, .int (nI v9)), (2, .int (nI w9)), (3, .int (nI size))]) hx hb dX2_difference_5 hl (by decide) rfl (fun ls hl => ?_)
  refine lv_aload_n hx hb dX2_difference_7 rfl (lv_at hl 1 rfl) ?_
  refine lv_iload_n hx hb dX2_difference_8 rfl (lv_at hl 3 rfl) ?_
  refine z_ceRV (As := [.int (nI w9)]) (rest := []) ⟨hx, hb, hml, hown, hts⟩ (c_X2_rowOf l D cs S0 ea mi sa a u sg w9 hw9) (cwV 1 hts gX2_difference_X2_rowOf rfl rfl rfl (by decide +kernel) ⟨Nat.le_of_ble_eq_true rfl, Nat.le_of_ble_eq_true rfl⟩) (hW.1 0 _ rfl) rfl ⟨hx0, hbf, hbc, hls, hlm, hlh, hrw, hpt, hin, hhr, hok⟩ hK hE hS rfl hl.1 rfl (Nat.le_of_ble_eq_true rfl) dX2_difference_9 ⟨(by rw [hRc]; omega), (by rw [hRs]; omega)⟩ (fun r hq9 => ?_)
  have hq9 : r = (xR u 0 w9) := hq9
  subst hq9
  refine lv_astore (lv' := [(5, .ref (xR u 0 w9)), (4, .ref (xR u 0 v9)), (0, .ref (a 0)), (1, .int (nI v9)), (2, .int (nI w9)), (3, .int (nI size))]) hx hb dX2_difference_12 hl (by decide) rfl (fun ls hl => ?_)
  refine lv_iload_n hx hb dX2_difference_14 rfl (lv_at hl 5 rfl) ?_
  refine z_csSv (As := [.int (nI size)]) (rest := []) ⟨hx, hb, hml, hown, hts⟩ (c_X2_checkSize l D cs size h2 h3) (va_cwS 1 hts gX2_difference_X2_checkSize rfl rfl rfl (by decide +kernel) ⟨Nat.le_of_ble_eq_true rfl, Nat.le_of_ble_eq_true rfl⟩) trivial hK rfl hl.1 rfl (Nat.le_of_ble_eq_true rfl) dX2_difference_15 ⟨(by rw [hRc]; omega), (by rw [hRs]; omega)⟩ ?_
  refine lv_aload_n hx hb dX2_difference_18 rfl (lv_at hl 2 rfl) ?_
  refine z_cevV (As := []) (rest := []) ⟨hx, hb, hml, hown, hts⟩ (c_X2_checkRoomForPatch l D cs S0 ea mi sa a u sg hroom) (cwV 0 hts gX2_difference_X2_checkRoomForPatch rfl rfl rfl (by decide +kernel) ⟨Nat.le_of_ble_eq_true rfl, Nat.le_of_ble_eq_true rfl⟩) (hW.1 0 _ rfl) rfl (XH.of (Y := Y) hW hF) hK hE hS rfl hl.1 rfl (Nat.le_of_ble_eq_true rfl) dX2_difference_19 ⟨(by rw [hRc]; omega), (by rw [hRs]; omega)⟩ ?_
  refine lv_aload hx hb dX2_difference_22 (lv_at hl 1 rfl) ?_
  refine lv_aload hx hb dX2_difference_24 (lv_at hl 0 rfl) ?_
  refine lv_iload_n hx hb dX2_difference_26 rfl (lv_at hl 5 rfl) ?_
  refine z_cmR (va_runS (As := [.ref (xR u 0 v9), .ref (xR u 0 w9), .int (nI size)]) (rest := []) ⟨hx, hb, hml, hown, hts⟩ (c_X2_originsByBlocks l D cs S0 (XW cs a u sg Y) (xR u 0 v9) (xR u 1 v9) (xR u 0 w9) (xR u 1 w9) (vsN sg.2.1 v9).length (vsN sg.2.1 w9).length size (bb (vsN sg.2.1 v9)) (bb (vsN sg.2.1 w9)) (XW_y _ (frw v9 hv9).1) (XW_y _ (frw v9 hv9).2) (XW_y _ (frw w9 hw9).1) (XW_y _ (frw w9 hw9).2) h2 h3 (hok.2.1.2 v9 hv9).1 (hok.2.1.2 w9 hw9).1) (va_cwS 3 hts gX2_difference_X2_originsByBlocks rfl rfl rfl (by decide +kernel) ⟨Nat.le_of_ble_eq_true rfl, Nat.le_of_ble_eq_true rfl⟩) ⟨zP_blind, (zP_pre hW hK)⟩ rfl rfl hl.1 rfl (lv_room (Nat.le_of_ble_eq_true rfl)) dX2_difference_27 ⟨(by rw [hRc]; omega), (by rw [hRs]; omega)⟩) hS (fun u7 ra H locs hu hW hpr hS => ?_)
  have hW := Wd.cong (rf_map (n := (vsN sg.2.1 w9).length) (F := difO (BT (bb (vsN sg.2.1 v9)) (vsN sg.2.1 v9).length (bb (vsN sg.2.1 w9)) (vsN sg.2.1 w9).length size) size)) hW
  have hW := XW.grow (G := [(ra, fa cs (vsN sg.2.1 w9).length (rf ((List.range (vsN sg.2.1 w9).length).map (difO (BT (bb (vsN sg.2.1 v9)) (vsN sg.2.1 v9).length (bb (vsN sg.2.1 w9)) (vsN sg.2.1 w9).length size) size))))]) hW
  obtain ⟨Y1, hY1⟩ : ∃ z : va_W, z = [(ra, fa cs (vsN sg.2.1 w9).length (rf ((List.range (vsN sg.2.1 w9).length).map (difO (BT (bb (vsN sg.2.1 v9)) (vsN sg.2.1 v9).length (bb (vsN sg.2.1 w9)) (vsN sg.2.1 w9).length size) size))))] ++ Y := ⟨_, rfl⟩
  rw [← hY1] at hW
  have hra : (ra, fa cs (vsN sg.2.1 w9).length (rf ((List.range (vsN sg.2.1 w9).length).map (difO (BT (bb (vsN sg.2.1 v9)) (vsN sg.2.1 v9).length (bb (vsN sg.2.1 w9)) (vsN sg.2.1 w9).length size) size)))) ∈ Y1 := by rw [hY1]; exact List.mem_cons_self
  have hF1 := hF.more (Y' := Y1) (fun q hq => by rw [hY1]; exact List.mem_append_right _ hq)
  have hW : Wd D S0 (((a 0), .inr (3, [.ref (a 1), .int (nI sg.1.length), .ref (a 4), .ref (a 5), .ref (xe u 3), .ref (a 6), .ref (a 2), .ref (a 3)])) :: ((a 1), fa cs 400 (xF u 0)) :: ((a 2), fa cs 200 (xF u 1)) :: ((a 3), fa cs 12 (xF u 2)) :: ((a 4), .inr (0, [.int (xm u 0), .ref (xe u 0), .int (nI sg.2.1.length)])) :: ((a 5), .inr (0, [.int (xm u 1), .ref (xe u 1), .int (nI sg.2.2.1.length)])) :: ((a 6), .inr (0, [.int (xm u 2), .ref (xe u 2), .int (nI sg.2.2.2.2.length)])) :: (XE cs u ++ Y1)) H := hW
  refine lv_astore (lv' := [(6, .ref ra), (5, .ref (xR u 0 w9)), (4, .ref (xR u 0 v9)), (0, .ref (a 0)), (1, .int (nI v9)), (2, .int (nI w9)), (3, .int (nI size))]) hx hb dX2_difference_30 hl (by decide) rfl (fun ls hl => ?_)
  refine lv_aload_n hx hb dX2_difference_32 rfl (lv_at hl 3 rfl) ?_
  refine z_get (ci := 3) (v := .ref (a 5)) (C := RX2) (T := TX2) (N := 8) hx hb hts in3 hown hK (hW.1 0 _ rfl) rfl 3 (by decide) fl24 (fun _ h9 => h9) rfl dX2_difference_33 ?_
  refine z_new (ci := 1) (fs := [.int 0, .int 0, .null, .null, .null, .int 0, .int 0]) (C := RX0) (T := TX0) (N := 7) hx hb hts in1 tyX0 tyX0_ok hown (hts (.classLink RX2 111 RX0) (by decide +kernel)) (hts (.instantiable RX0 7) (by decide +kernel)) (hts (.initialized RX0) (by decide +kernel)) hK hW hS hS0 rfl (fun j hj => by rcases (show j = 0 ∨ j = 1 ∨ j = 2 ∨ j = 3 ∨ j = 4 ∨ j = 5 ∨ j = 6 by omega) with rfl | rfl | rfl | rfl | rfl | rfl | rfl <;> rfl) (by rw [hRc]; omega) (by rw [hRs]; omega) dX2_difference_36 (fun q36 H hW hS => ?_)
  have hW := Wd.mv (M := [((a 0), .inr (3, [.ref (a 1), .int (nI sg.1.length), .ref (a 4), .ref (a 5), .ref (xe u 3), .ref (a 6), .ref (a 2), .ref (a 3)])), ((a 1), fa cs 400 (xF u 0)), ((a 2), fa cs 200 (xF u 1)), ((a 3), fa cs 12 (xF u 2)), ((a 4), .inr (0, [.int (xm u 0), .ref (xe u 0), .int (nI sg.2.1.length)])), ((a 5), .inr (0, [.int (xm u 1), .ref (xe u 1), .int (nI sg.2.2.1.length)])), ((a 6), .inr (0, [.int (xm u 2), .ref (xe u 2), .int (nI sg.2.2.2.2.length)]))]) hW
  have hW : Wd D S0 (((a 0), .inr (3, [.ref (a 1), .int (nI sg.1.length), .ref (a 4), .ref (a 5), .ref (xe u 3), .ref (a 6), .ref (a 2), .ref (a 3)])) :: ((a 1), fa cs 400 (xF u 0)) :: ((a 2), fa cs 200 (xF u 1)) :: ((a 3), fa cs 12 (xF u 2)) :: ((a 4), .inr (0, [.int (xm u 0), .ref (xe u 0), .int (nI sg.2.1.length)])) :: ((a 5), .inr (0, [.int (xm u 1), .ref (xe u 1), .int (nI sg.2.2.1.length)])) :: ((a 6), .inr (0, [.int (xm u 2), .ref (xe u 2), .int (nI sg.2.2.2.2.length)])) :: (q36, .inr (1, [.int 0, .int 0, .null, .null, .null, .int 0, .int 0])) :: (XE cs u ++ Y1)) H := hW
  have hW : Wd D S0 ((q36, .inr (1, [.int 0, .int 0, .null, .null, .null, .int 0, .int 0])) :: XW cs a u sg Y1) H := hW.perm (List.perm_middle (l₁ := XL cs a u sg))
  have hW := XW.grow (G := [(q36, (.inr (1, [.int 0, .int 0, .null, .null, .null, .int 0, .int 0]) : va_E))]) hW
  have hFq := hF1.more (Y' := [(q36, (.inr (1, [.int 0, .int 0, .null, .null, .null, .int 0, .int 0]) : va_E))] ++ Y1) (fun q hq => List.mem_append_right _ hq)
  have hW : Wd D S0 (((a 0), .inr (3, [.ref (a 1), .int (nI sg.1.length), .ref (a 4), .ref (a 5), .ref (xe u 3), .ref (a 6), .ref (a 2), .ref (a 3)])) :: ((a 1), fa cs 400 (xF u 0)) :: ((a 2), fa cs 200 (xF u 1)) :: ((a 3), fa cs 12 (xF u 2)) :: ((a 4), .inr (0, [.int (xm u 0), .ref (xe u 0), .int (nI sg.2.1.length)])) :: ((a 5), .inr (0, [.int (xm u 1), .ref (xe u 1), .int (nI sg.2.2.1.length)])) :: ((a 6), .inr (0, [.int (xm u 2), .ref (xe u 2), .int (nI sg.2.2.2.2.length)])) :: (XE cs u ++ ([(q36, (.inr (1, [.int 0, .int 0, .null, .null, .null, .int 0, .int 0]) : va_E))] ++ Y1))) H := hW
  refine lv_dup hx hb dX2_difference_39 rfl ?_
  refine lv_aload_n hx hb dX2_difference_40 rfl (lv_at hl 3 rfl) ?_
  refine lv_iload_n hx hb dX2_difference_41 rfl (lv_at hl 4 rfl) ?_
  refine z_ceV (As := [.int (nI v9)]) (rest := [.ref q36, .ref q36, .ref (a 5)]) ⟨hx, hb, hml, hown, hts⟩ (c_X2_firstLike l D cs S0 ea mi sa a u sg v9 hv9) (cwV 1 hts gX2_difference_X2_firstLike rfl rfl rfl (by decide +kernel) ⟨Nat.le_of_ble_eq_true rfl, Nat.le_of_ble_eq_true rfl⟩) (hW.1 0 _ rfl) rfl (XH.of (Y := ([(q36, (.inr (1, [.int 0, .int 0, .null, .null, .null, .int 0, .int 0]) : va_E))] ++ Y1)) hW hFq) hK hE hS rfl hl.1 rfl (Nat.le_of_ble_eq_true rfl) dX2_difference_42 ⟨(by rw [hRc]; omega), (by rw [hRs]; omega)⟩ (fun r hq9 => ?_)
  have hq9 : r = nI (flN sg.2.1 v9) := hq9
  subst hq9
  refine lv_aload_n hx hb dX2_difference_45 rfl (lv_at hl 3 rfl) ?_
  refine lv_iload_n hx hb dX2_difference_46 rfl (lv_at hl 5 rfl) ?_
  refine z_ceV (As := [.int (nI w9)]) (rest := [.int (nI (flN sg.2.1 v9)), .ref q36, .ref q36, .ref (a 5)]) ⟨hx, hb, hml, hown, hts⟩ (c_X2_firstLike l D cs S0 ea mi sa a u sg w9 hw9) (cwV 1 hts gX2_difference_X2_firstLike rfl rfl rfl (by decide +kernel) ⟨Nat.le_of_ble_eq_true rfl, Nat.le_of_ble_eq_true rfl⟩) (hW.1 0 _ rfl) rfl (XH.of (Y := ([(q36, (.inr (1, [.int 0, .int 0, .null, .null, .null, .int 0, .int 0]) : va_E))] ++ Y1)) hW hFq) hK hE hS rfl hl.1 rfl (Nat.le_of_ble_eq_true rfl) dX2_difference_47 ⟨(by rw [hRc]; omega), (by rw [hRs]; omega)⟩ (fun r hq9 => ?_)
  have hq9 : r = nI (flN sg.2.1 w9) := hq9
  subst hq9
  refine lv_aload hx hb dX2_difference_50 (lv_at hl 1 rfl) ?_
  refine lv_aload hx hb dX2_difference_52 (lv_at hl 0 rfl) ?_
  have hW := XW.shrink (G := [(q36, (.inr (1, [.int 0, .int 0, .null, .null, .null, .int 0, .int 0]) : va_E))]) (Y := Y1) (u := u) (σ := sg) (cs := cs) (a := a) hW
  refine z_cmV (va_runI (As := [.int (nI (flN sg.2.1 v9)), .int (nI (flN sg.2.1 w9)), .ref (xR u 0 w9), .ref ra]) (rest := [.ref q36, .ref (a 5)]) ⟨hx, hb, hml, hown, hts⟩ (c_X0_init l D cs S0 ea mi sa (XW cs a u sg Y1) q36 ra (xR u 0 w9) (vsN sg.2.1 w9).length (nI (flN sg.2.1 v9)) (nI (flN sg.2.1 w9)) (rf ((List.range (vsN sg.2.1 w9).length).map (difO (BT (bb (vsN sg.2.1 v9)) (vsN sg.2.1 v9).length (bb (vsN sg.2.1 w9)) (vsN sg.2.1 w9).length size) size))) (XW_y _ hra) (by omega)) (cwI 4 hts gX2_difference_X0_init rfl rfl rfl (hts (.initialized RX0) (by decide +kernel)) (hts (.methodLink RX2 117 yX0_init) (by decide +kernel)) (hts (.instanceMethod yX0_init) (by decide +kernel)) rfl (by decide +kernel) ⟨Nat.le_of_ble_eq_true rfl, Nat.le_of_ble_eq_true rfl⟩) ⟨zE_blind, (zE_pre hW hK hE hS)⟩ rfl rfl hl.1 rfl (lv_room (Nat.le_of_ble_eq_true rfl)) dX2_difference_54 ⟨(by rw [hRc]; omega), (by rw [hRs]; omega)⟩) hS (fun u9 H locs hu hW hS => ?_)
  have hW := XW.grow (G := [(u9.1, fa cs (manyN (rf ((List.range (vsN sg.2.1 w9).length).map (difO (BT (bb (vsN sg.2.1 v9)) (vsN sg.2.1 v9).length (bb (vsN sg.2.1 w9)) (vsN sg.2.1 w9).length size) size))) (vsN sg.2.1 w9).length) (fun i => nI (posN (rf ((List.range (vsN sg.2.1 w9).length).map (difO (BT (bb (vsN sg.2.1 v9)) (vsN sg.2.1 v9).length (bb (vsN sg.2.1 w9)) (vsN sg.2.1 w9).length size) size))) (vsN sg.2.1 w9).length i))), (u9.2.1, fa cs (vsN sg.2.1 w9).length u9.2.2), (q36, .inr (1, [.int (nI (flN sg.2.1 v9)), .int (nI (flN sg.2.1 w9)), .ref (xR u 0 w9), .ref ra, .ref u9.1, .int (nI (litN (rf ((List.range (vsN sg.2.1 w9).length).map (difO (BT (bb (vsN sg.2.1 v9)) (vsN sg.2.1 v9).length (bb (vsN sg.2.1 w9)) (vsN sg.2.1 w9).length size) size))) (vsN sg.2.1 w9).length)), .int (nI (costN (rf ((List.range (vsN sg.2.1 w9).length).map (difO (BT (bb (vsN sg.2.1 v9)) (vsN sg.2.1 v9).length (bb (vsN sg.2.1 w9)) (vsN sg.2.1 w9).length size) size))) (vsN sg.2.1 w9).length))]))]) hW
  obtain ⟨G2, hG2⟩ : ∃ z : va_W, z = [(u9.1, fa cs (manyN (rf ((List.range (vsN sg.2.1 w9).length).map (difO (BT (bb (vsN sg.2.1 v9)) (vsN sg.2.1 v9).length (bb (vsN sg.2.1 w9)) (vsN sg.2.1 w9).length size) size))) (vsN sg.2.1 w9).length) (fun i => nI (posN (rf ((List.range (vsN sg.2.1 w9).length).map (difO (BT (bb (vsN sg.2.1 v9)) (vsN sg.2.1 v9).length (bb (vsN sg.2.1 w9)) (vsN sg.2.1 w9).length size) size))) (vsN sg.2.1 w9).length i))), (u9.2.1, fa cs (vsN sg.2.1 w9).length u9.2.2), (q36, .inr (1, [.int (nI (flN sg.2.1 v9)), .int (nI (flN sg.2.1 w9)), .ref (xR u 0 w9), .ref ra, .ref u9.1, .int (nI (litN (rf ((List.range (vsN sg.2.1 w9).length).map (difO (BT (bb (vsN sg.2.1 v9)) (vsN sg.2.1 v9).length (bb (vsN sg.2.1 w9)) (vsN sg.2.1 w9).length size) size))) (vsN sg.2.1 w9).length)), .int (nI (costN (rf ((List.range (vsN sg.2.1 w9).length).map (difO (BT (bb (vsN sg.2.1 v9)) (vsN sg.2.1 v9).length (bb (vsN sg.2.1 w9)) (vsN sg.2.1 w9).length size) size))) (vsN sg.2.1 w9).length))]))] ++ [(ra, fa cs (vsN sg.2.1 w9).length (rf ((List.range (vsN sg.2.1 w9).length).map (difO (BT (bb (vsN sg.2.1 v9)) (vsN sg.2.1 v9).length (bb (vsN sg.2.1 w9)) (vsN sg.2.1 w9).length size) size))))] := ⟨_, rfl⟩
  rw [hY1, ← List.append_assoc, ← hG2] at hW
  obtain ⟨Y2, hY2⟩ : ∃ z : va_W, z = G2 ++ Y := ⟨_, rfl⟩
  rw [← hY2] at hW
  have hm2 : ∀ q ∈ Y, q ∈ Y2 := fun q hq => by rw [hY2]; exact List.mem_append_right _ hq
  have hF2 := hF.more hm2
  have hg1 : (u9.1, fa cs (manyN (rf ((List.range (vsN sg.2.1 w9).length).map (difO (BT (bb (vsN sg.2.1 v9)) (vsN sg.2.1 v9).length (bb (vsN sg.2.1 w9)) (vsN sg.2.1 w9).length size) size))) (vsN sg.2.1 w9).length) (fun i => nI (posN (rf ((List.range (vsN sg.2.1 w9).length).map (difO (BT (bb (vsN sg.2.1 v9)) (vsN sg.2.1 v9).length (bb (vsN sg.2.1 w9)) (vsN sg.2.1 w9).length size) size))) (vsN sg.2.1 w9).length i))) ∈ Y2 := by rw [hY2, hG2]; exact List.mem_append_left _ List.mem_cons_self
  have hg2 : (q36, (.inr (1, [.int (nI (flN sg.2.1 v9)), .int (nI (flN sg.2.1 w9)), .ref (xR u 0 w9), .ref ra, .ref u9.1, .int (nI (litN (rf ((List.range (vsN sg.2.1 w9).length).map (difO (BT (bb (vsN sg.2.1 v9)) (vsN sg.2.1 v9).length (bb (vsN sg.2.1 w9)) (vsN sg.2.1 w9).length size) size))) (vsN sg.2.1 w9).length)), .int (nI (costN (rf ((List.range (vsN sg.2.1 w9).length).map (difO (BT (bb (vsN sg.2.1 v9)) (vsN sg.2.1 v9).length (bb (vsN sg.2.1 w9)) (vsN sg.2.1 w9).length size) size))) (vsN sg.2.1 w9).length))]) : va_E)) ∈ Y2 := by rw [hY2, hG2]; exact List.mem_append_left _ (List.mem_cons_of_mem _ (List.mem_cons_of_mem _ List.mem_cons_self))
  have hg3 : (ra, fa cs (vsN sg.2.1 w9).length (rf ((List.range (vsN sg.2.1 w9).length).map (difO (BT (bb (vsN sg.2.1 v9)) (vsN sg.2.1 v9).length (bb (vsN sg.2.1 w9)) (vsN sg.2.1 w9).length size) size)))) ∈ Y2 := by rw [hY2, hG2]; exact List.mem_append_left _ (List.mem_cons_of_mem _ (List.mem_cons_of_mem _ (List.mem_cons_of_mem _ List.mem_cons_self)))
  have hW : Wd D S0 (((a 0), .inr (3, [.ref (a 1), .int (nI sg.1.length), .ref (a 4), .ref (a 5), .ref (xe u 3), .ref (a 6), .ref (a 2), .ref (a 3)])) :: ((a 1), fa cs 400 (xF u 0)) :: ((a 2), fa cs 200 (xF u 1)) :: ((a 3), fa cs 12 (xF u 2)) :: ((a 4), .inr (0, [.int (xm u 0), .ref (xe u 0), .int (nI sg.2.1.length)])) :: ((a 5), .inr (0, [.int (xm u 1), .ref (xe u 1), .int (nI sg.2.2.1.length)])) :: ((a 6), .inr (0, [.int (xm u 2), .ref (xe u 2), .int (nI sg.2.2.2.2.length)])) :: (XE cs u ++ Y2)) H := hW
  have hW := XW.out1 (u := u) (σ := sg) (Y := Y2) hW
  refine z_cmI (va_runV (As := [.ref q36]) (rest := []) ⟨hx, hb, hml, hown, hts⟩ (c_add l D cs S0 ea mi sa (XR1 cs a u sg ++ Y2) (a 5) (xe u 1) sg.2.2.1.length (xc u 1) 1 (xm u 1) (xg u 1) fl1.1 fl1.2.2.1 fl1.2.1 (by omega) (Or.inl rfl) (fun i hi => ⟨xP u 0 i, _, fl1.2.2.2 i hi, List.mem_append_right _ (hF2.2.2.2.2.2.1 i hi).1.1⟩) q36 _ (List.mem_append_right _ hg2)) (cwV 1 hts gX2_difference_Jx4a65c_add_9ea2d rfl rfl rfl (by decide +kernel) ⟨Nat.le_of_ble_eq_true rfl, Nat.le_of_ble_eq_true rfl⟩) ⟨zE_blind, z_recv hK (hW.1 0 _ rfl) rfl, (zE_pre hW hK hE hS)⟩ rfl rfl hl.1 rfl (lv_room (Nat.le_of_ble_eq_true rfl)) dX2_difference_57 ⟨(by rw [hRc]; omega), (by rw [hRs]; omega)⟩) hS (fun r u8 H locs hu hW hS => ?_)
  have hlen : (stP sg (((vsN sg.2.1 v9), (vsN sg.2.1 w9), ((List.range (vsN sg.2.1 w9).length).map (difO (BT (bb (vsN sg.2.1 v9)) (vsN sg.2.1 v9).length (bb (vsN sg.2.1 w9)) (vsN sg.2.1 w9).length size) size))) : Pt)).2.2.1.length = sg.2.2.1.length + 1 := List.length_append
  rw [← hlen] at hW
  have hW := XW.in1 (u := (xuP u (xm u 1 + nI 1) u8 sg.2.2.1.length (fun i => [q36, (xR u 0 w9), (xR u 1 w9), ra, u9.1, flN sg.2.1 v9, flN sg.2.1 w9].getD i 0))) (σ := stP sg (((vsN sg.2.1 v9), (vsN sg.2.1 w9), ((List.range (vsN sg.2.1 w9).length).map (difO (BT (bb (vsN sg.2.1 v9)) (vsN sg.2.1 v9).length (bb (vsN sg.2.1 w9)) (vsN sg.2.1 w9).length size) size))) : Pt)) hW
  have hF3 := (hF2.addP (q := (((vsN sg.2.1 v9), (vsN sg.2.1 w9), ((List.range (vsN sg.2.1 w9).length).map (difO (BT (bb (vsN sg.2.1 v9)) (vsN sg.2.1 v9).length (bb (vsN sg.2.1 w9)) (vsN sg.2.1 w9).length size) size))) : Pt)) (w := (fun i => [q36, (xR u 0 w9), (xR u 1 w9), ra, u9.1, flN sg.2.1 v9, flN sg.2.1 w9].getD i 0)) (mc := xm u 1 + nI 1) hu hg2 hg3 hg1 (hF2.2.2.2.2.1 w9 hw9) ((FI_flN hok.2.1.2 hv9).1) ((FI_flN hok.2.1.2 hw9).1) (⟨hok.2.1.2 v9 hv9, hok.2.1.2 w9 hw9, rf_len, fun k hk => by rw [← rf_map (n := (vsN sg.2.1 w9).length) (F := difO (BT (bb (vsN sg.2.1 v9)) (vsN sg.2.1 v9).length (bb (vsN sg.2.1 w9)) (vsN sg.2.1 w9).length size) size) k hk]; exact dif_ok (fun _ _ _ hb => btc_lt hb) (Nat.div_mul_le_self _ _) (by omega) k⟩) hroom).more (Y' := u8.2.2.2 ++ Y2) (fun q hq => List.mem_append_right _ hq)
  have hW : Wd D S0 (((a 0), .inr (3, [.ref (a 1), .int (nI sg.1.length), .ref (a 4), .ref (a 5), .ref (xe (xuP u (xm u 1 + nI 1) u8 sg.2.2.1.length (fun i => [q36, (xR u 0 w9), (xR u 1 w9), ra, u9.1, flN sg.2.1 v9, flN sg.2.1 w9].getD i 0)) 3), .ref (a 6), .ref (a 2), .ref (a 3)])) :: ((a 1), fa cs 400 (xF (xuP u (xm u 1 + nI 1) u8 sg.2.2.1.length (fun i => [q36, (xR u 0 w9), (xR u 1 w9), ra, u9.1, flN sg.2.1 v9, flN sg.2.1 w9].getD i 0)) 0)) :: ((a 2), fa cs 200 (xF (xuP u (xm u 1 + nI 1) u8 sg.2.2.1.length (fun i => [q36, (xR u 0 w9), (xR u 1 w9), ra, u9.1, flN sg.2.1 v9, flN sg.2.1 w9].getD i 0)) 1)) :: ((a 3), fa cs 12 (xF (xuP u (xm u 1 + nI 1) u8 sg.2.2.1.length (fun i => [q36, (xR u 0 w9), (xR u 1 w9), ra, u9.1, flN sg.2.1 v9, flN sg.2.1 w9].getD i 0)) 2)) :: ((a 4), .inr (0, [.int (xm (xuP u (xm u 1 + nI 1) u8 sg.2.2.1.length (fun i => [q36, (xR u 0 w9), (xR u 1 w9), ra, u9.1, flN sg.2.1 v9, flN sg.2.1 w9].getD i 0)) 0), .ref (xe (xuP u (xm u 1 + nI 1) u8 sg.2.2.1.length (fun i => [q36, (xR u 0 w9), (xR u 1 w9), ra, u9.1, flN sg.2.1 v9, flN sg.2.1 w9].getD i 0)) 0), .int (nI sg.2.1.length)])) :: ((a 5), .inr (0, [.int (xm u 1 + nI 1), .ref u8.1, .int (nI ((stP sg (((vsN sg.2.1 v9), (vsN sg.2.1 w9), ((List.range (vsN sg.2.1 w9).length).map (difO (BT (bb (vsN sg.2.1 v9)) (vsN sg.2.1 v9).length (bb (vsN sg.2.1 w9)) (vsN sg.2.1 w9).length size) size))) : Pt)).2.2.1.length))])) :: ((a 6), .inr (0, [.int (xm (xuP u (xm u 1 + nI 1) u8 sg.2.2.1.length (fun i => [q36, (xR u 0 w9), (xR u 1 w9), ra, u9.1, flN sg.2.1 v9, flN sg.2.1 w9].getD i 0)) 2), .ref (xe (xuP u (xm u 1 + nI 1) u8 sg.2.2.1.length (fun i => [q36, (xR u 0 w9), (xR u 1 w9), ra, u9.1, flN sg.2.1 v9, flN sg.2.1 w9].getD i 0)) 2), .int (nI sg.2.2.2.2.length)])) :: (XE cs (xuP u (xm u 1 + nI 1) u8 sg.2.2.1.length (fun i => [q36, (xR u 0 w9), (xR u 1 w9), ra, u9.1, flN sg.2.1 v9, flN sg.2.1 w9].getD i 0)) ++ (u8.2.2.2 ++ Y2))) H := hW
  refine lv_pop hx hb dX2_difference_60 rfl ?_
  refine lv_aload_n hx hb dX2_difference_61 rfl (lv_at hl 3 rfl) ?_
  refine z_get (ci := 3) (v := .ref (a 5)) (C := RX2) (T := TX2) (N := 8) hx hb hts in3 hown hK (hW.1 0 _ rfl) rfl 3 (by decide) fl24 (fun _ h9 => h9) rfl dX2_difference_62 ?_
  refine z_csV (As := []) (rest := []) ⟨hx, hb, hml, hown, hts⟩ (c_Jx4a65c_size_8abf5 l D cs (a 5) u8.1 (stP sg (((vsN sg.2.1 v9), (vsN sg.2.1 w9), ((List.range (vsN sg.2.1 w9).length).map (difO (BT (bb (vsN sg.2.1 v9)) (vsN sg.2.1 v9).length (bb (vsN sg.2.1 w9)) (vsN sg.2.1 w9).length size) size))) : Pt)).2.2.1.length (xm u 1 + nI 1)) (cwV 0 hts gX2_difference_Jx4a65c_size_8abf5 rfl rfl rfl (by decide +kernel) ⟨Nat.le_of_ble_eq_true rfl, Nat.le_of_ble_eq_true rfl⟩) (hW.1 5 _ rfl) rfl (hW.1 5 _ rfl) hK rfl hl.1 rfl (Nat.le_of_ble_eq_true rfl) dX2_difference_65 ⟨(by rw [hRc]; omega), (by rw [hRs]; omega)⟩ (fun r hq9 => ?_)
  have hq9 : r = nI ((stP sg (((vsN sg.2.1 v9), (vsN sg.2.1 w9), ((List.range (vsN sg.2.1 w9).length).map (difO (BT (bb (vsN sg.2.1 v9)) (vsN sg.2.1 v9).length (bb (vsN sg.2.1 w9)) (vsN sg.2.1 w9).length size) size))) : Pt)).2.2.1.length) := hq9
  subst hq9
  refine lv_iconst (v := nI 1) hx hb dX2_difference_68 (by decide) ?_
  refine lv_isub hx hb dX2_difference_69 ?_
  refine zti (pk_sub (by omega)) (y := nI (((stP sg (((vsN sg.2.1 v9), (vsN sg.2.1 w9), ((List.range (vsN sg.2.1 w9).length).map (difO (BT (bb (vsN sg.2.1 v9)) (vsN sg.2.1 v9).length (bb (vsN sg.2.1 w9)) (vsN sg.2.1 w9).length size) size))) : Pt)).2.2.1.length) - 1)) ?_
  have hW : Wd D S0 (XW cs a (xuP u (xm u 1 + nI 1) u8 sg.2.2.1.length (fun i => [q36, (xR u 0 w9), (xR u 1 w9), ra, u9.1, flN sg.2.1 v9, flN sg.2.1 w9].getD i 0)) (stP sg (((vsN sg.2.1 v9), (vsN sg.2.1 w9), ((List.range (vsN sg.2.1 w9).length).map (difO (BT (bb (vsN sg.2.1 v9)) (vsN sg.2.1 v9).length (bb (vsN sg.2.1 w9)) (vsN sg.2.1 w9).length size) size))) : Pt)) ((u8.2.2.2 ++ G2) ++ Y)) H := by
    rw [List.append_assoc, ← hY2]; exact hW
  have hF4 : XF cs ea (xuP u (xm u 1 + nI 1) u8 sg.2.2.1.length (fun i => [q36, (xR u 0 w9), (xR u 1 w9), ra, u9.1, flN sg.2.1 v9, flN sg.2.1 w9].getD i 0)) (stP sg (((vsN sg.2.1 v9), (vsN sg.2.1 w9), ((List.range (vsN sg.2.1 w9).length).map (difO (BT (bb (vsN sg.2.1 v9)) (vsN sg.2.1 v9).length (bb (vsN sg.2.1 w9)) (vsN sg.2.1 w9).length size) size))) : Pt)) ((u8.2.2.2 ++ G2) ++ Y) := by
    rw [List.append_assoc, ← hY2]; exact hF3
  refine W.widen (k := 5) (n := 1607) (by omega) (by omega) ?_
  exact W.iret (v := nI (((stP sg (((vsN sg.2.1 v9), (vsN sg.2.1 w9), ((List.range (vsN sg.2.1 w9).length).map (difO (BT (bb (vsN sg.2.1 v9)) (vsN sg.2.1 v9).length (bb (vsN sg.2.1 w9)) (vsN sg.2.1 w9).length size) size))) : Pt)).2.2.1.length) - 1)) hx hb hr (fun t ht hW9 => ⟨⟨_, ((xuP u (xm u 1 + nI 1) u8 sg.2.2.1.length (fun i => [q36, (xR u 0 w9), (xR u 1 w9), ra, u9.1, flN sg.2.1 v9, flN sg.2.1 w9].getD i 0)), u8.2.2.2 ++ G2), rfl, ⟨congrArg nI (by rw [hlen]; rfl), hF4⟩, (by show Wd D S0 _ _; rw [ht]; exact hW)⟩, hS.F ht⟩) (fun q9 h9 => hS.2.2 q9 h9) dX2_difference_70

theorem cmp_ok {f1 f2 : Nat → Int32} {n0 n1 nb : Nat} (h1 : ∀ k, k < n0 → f1 k = (-1) ∨ ∃ j, j < nb ∧ f1 k = nI j) (h2 : ∀ k, k < n1 → f2 k = (-1) ∨ ∃ j, j < n0 ∧ f2 k = nI j) (hn : n0 ≤ 400) : ∀ k, k < n1 → cmpO f1 f2 k = (-1) ∨ ∃ j, j < nb ∧ cmpO f1 f2 k = nI j := by
  intro k hk
  rcases h2 k hk with h | ⟨j, hj, h⟩
  · exact Or.inl (cmp_l h).symm
  · rw [← cmp_c h (by omega)]; exact h1 j hj

set_option maxHeartbeats 4000000 in
set_option maxRecDepth 100000 in
theorem c_X2_compose (l : Launch) (D : va_G) (cs : Nat → ClassId) (S0 : Nat) (ea mi : Nat) (sa : Nat → Nat) (Y : va_W) (a : Nat → Nat) (u : XU) (sg : St) (hF : XF cs ea u sg Y) (j9 k9 : Nat) (hj : j9 < sg.2.2.1.length) (hk : k9 < sg.2.2.1.length) (hee : xP u 6 j9 = xP u 5 k9) (hroom : sg.2.2.1.length < 12) : Met l yX2_compose wsX2_compose ({ frames := 7, cells := 5, slots := 1607, locals := 171 }) (zE [.ref (a 0), .int (nI j9), .int (nI k9)] (fun H => Wd D S0 (XW cs a u sg Y) H) D cs S0 ea mi sa) (va_Qi (fun r (v : XU × va_W) => r = nI sg.2.2.1.length ∧ XF cs ea v.1 (stP sg (((psN sg.2.2.1 j9).1, (psN sg.2.2.1 k9).2.1, ((List.range (psN sg.2.2.1 k9).2.1.length).map (cmpO (rf (psN sg.2.2.1 j9).2.2) (rf (psN sg.2.2.1 k9).2.2)))) : Pt)) (v.2 ++ Y)) (fun v t => Wd D S0 (XW cs a v.1 (stP sg (((psN sg.2.2.1 j9).1, (psN sg.2.2.1 k9).2.1, ((List.range (psN sg.2.2.1 k9).2.1.length).map (cmpO (rf (psN sg.2.2.1 j9).2.2) (rf (psN sg.2.2.1 k9).2.2)))) : Pt)) (v.2 ++ Y)) t.heap) (SA S0)) 5 1607 (SA S0) := by
  refine Met.ofW (cc := cX2_compose) (maxL := 6) (ret := (some .int)) (by decide) rfl ?_
  intro p e s m args below meth c s₁ B hml hv
  obtain ⟨rfl, hW, hK, hE⟩ := hv
  have hx := B.exec
  have hb := B.bytes
  have hr := B.returns
  have hts := atoms_spec (ws := wsX2_compose) B.pre
  have hown : s.vm.findClass RX2 = some m.cls := findClass_of_methodNamed B.named
  have hlocks := B.notSynchronized
  have hRc : (headSpec wsX2_compose ({ frames := 7, cells := 5, slots := 1607, locals := 171 })).room.cells = 5 := rfl
  have hRs : (headSpec wsX2_compose ({ frames := 7, cells := 5, slots := 1607, locals := 171 })).room.slots = 1607 := rfl
  have fl124 := hts (.fieldLink RX2 124 "DeltaUpdater$Patch" "goal" "I") (by decide +kernel)
  have fl127 := hts (.fieldLink RX2 127 "DeltaUpdater$Patch" "base" "I") (by decide +kernel)
  have fl132 := hts (.fieldLink RX2 132 "DeltaUpdater$Patch" "origins" "[I") (by decide +kernel)
  have fl139 := hts (.fieldLink RX2 139 "DeltaUpdater$Patch" "goalRow" "LDeltaUpdater$Row;") (by decide +kernel)
  have fl24 := hts (.fieldLink RX2 24 "DeltaUpdater" "made" "Ljava/util/ArrayList;") (by decide +kernel)
  have in1 : ∀ w ∈ u_ws RX0 TX0 7, w ∈ wsX2_compose := by decide +kernel
  have in3 : ∀ w ∈ u_ws RX2 TX2 8, w ∈ wsX2_compose := by decide +kernel
  have hW : Wd D S0 (XW cs a u sg Y) s.heap := hW
  have hS0 : S0 ≤ s.heap.size := hW.2.2
  have hS : va_S (SA S0) s.heap s.heap [] := va_S.rf
  have hl := lv_entry ([.ref (a 0), .int (nI j9), .int (nI k9)]) (n := 6) (Nat.le_of_ble_eq_true rfl)
  rw [lg_entry_eq]
  generalize (lg_sl ([.ref (a 0), .int (nI j9), .int (nI k9)]) ++ List.replicate (6 - (lg_sl ([.ref (a 0), .int (nI j9), .int (nI k9)])).length) Slot.unset).toArray = ls at hl ⊢
  have hl : lv_has ls 6 [(0, .ref (a 0)), (1, .int (nI j9)), (2, .int (nI k9))] := hl
  obtain ⟨fbf, fl0, fl1, fl2, frw, fpt, fin, fhi, hok⟩ := id hF
  obtain ⟨hx0, hbf, hbc, hls, hlm, hlh, hrw, hpt, hin, hhr, -⟩ := XH.of (Y := Y) hW hF
  have hbl := hok.1.1
  have hnv := hok.2.1.1
  have hnp := hok.2.2.1.1
  have hnh := hok.2.2.2.2.1
  have hnj := (hok.2.2.1.2 j9 hj).2.1.1
  have hnk := (hok.2.2.1.2 k9 hk).2.1.1
  have hgj := (fpt j9 hj).2.2.1
  have hbk := (fpt k9 hk).2.1.1
  have hgk := (fpt k9 hk).2.2.1
  have hbj := (fpt j9 hj).2.1.1
  have hbg : (psN sg.2.2.1 k9).1 = (psN sg.2.2.1 j9).2.1 := by rw [← (fpt k9 hk).2.1.2.1, ← (fpt j9 hj).2.2.2.1, hee]
  have hob : ∀ k, k < (psN sg.2.2.1 k9).2.1.length → rf (psN sg.2.2.1 k9).2.2 k = (-1) ∨ ∃ j, j < (psN sg.2.2.1 j9).2.1.length ∧ rf (psN sg.2.2.1 k9).2.2 k = nI j := by rw [← hbg]; exact (hok.2.2.1.2 k9 hk).2.2.2
  refine lv_aload_n hx hb dX2_compose_0 rfl (lv_at hl 0 rfl) ?_
  refine lv_iload_n hx hb dX2_compose_1 rfl (lv_at hl 1 rfl) ?_
  refine z_ceRV (As := [.int (nI j9)]) (rest := []) ⟨hx, hb, hml, hown, hts⟩ (c_X2_patchOf l D cs S0 ea mi sa a u sg j9 hj) (cwV 1 hts gX2_compose_X2_patchOf rfl rfl rfl (by decide +kernel) ⟨Nat.le_of_ble_eq_true rfl, Nat.le_of_ble_eq_true rfl⟩) (hW.1 0 _ rfl) rfl ⟨hx0, hbf, hbc, hls, hlm, hlh, hrw, hpt, hin, hhr, hok⟩ hK hE hS rfl hl.1 rfl (Nat.le_of_ble_eq_true rfl) dX2_compose_2 ⟨(by rw [hRc]; omega), (by rw [hRs]; omega)⟩ (fun r hq9 => ?_)
  have hq9 : r = (xP u 0 j9) := hq9
  subst hq9
  refine lv_astore_n (lv' := [(3, .ref (xP u 0 j9)), (0, .ref (a 0)), (1, .int (nI j9)), (2, .int (nI k9))]) hx hb dX2_compose_5 rfl hl (by decide) rfl (fun ls hl => ?_)
  refine lv_aload_n hx hb dX2_compose_6 rfl (lv_at hl 1 rfl) ?_
  refine lv_iload_n hx hb dX2_compose_7 rfl (lv_at hl 3 rfl) ?_
  refine z_ceRV (As := [.int (nI k9)]) (rest := []) ⟨hx, hb, hml, hown, hts⟩ (c_X2_patchOf l D cs S0 ea mi sa a u sg k9 hk) (cwV 1 hts gX2_compose_X2_patchOf rfl rfl rfl (by decide +kernel) ⟨Nat.le_of_ble_eq_true rfl, Nat.le_of_ble_eq_true rfl⟩) (hW.1 0 _ rfl) rfl ⟨hx0, hbf, hbc, hls, hlm, hlh, hrw, hpt, hin, hhr, hok⟩ hK hE hS rfl hl.1 rfl (Nat.le_of_ble_eq_true rfl) dX2_compose_8 ⟨(by rw [hRc]; omega), (by rw [hRs]; omega)⟩ (fun r hq9 => ?_)
  have hq9 : r = (xP u 0 k9) := hq9
  subst hq9
  refine lv_astore (lv' := [(4, .ref (xP u 0 k9)), (3, .ref (xP u 0 j9)), (0, .ref (a 0)), (1, .int (nI j9)), (2, .int (nI k9))]) hx hb dX2_compose_11 hl (by decide) rfl (fun ls hl => ?_)
  refine lv_aload_n hx hb dX2_compose_13 rfl (lv_at hl 1 rfl) ?_
  refine z_get (ci := 1) (v := .int (nI (xP u 6 j9))) (C := RX0) (T := TX0) (N := 7) hx hb hts in1 hown hK (hpt j9 (by omega)).1.1 rfl 1 (by decide) fl124 (fun _ h9 => h9) rfl dX2_compose_14 ?_
  refine lv_aload hx hb dX2_compose_17 (lv_at hl 0 rfl) ?_
  refine z_get (ci := 1) (v := .int (nI (xP u 5 k9))) (C := RX0) (T := TX0) (N := 7) hx hb hts in1 hown hK (hpt k9 (by omega)).1.1 rfl 0 (by decide) fl127 (fun _ h9 => h9) rfl dX2_compose_19 ?_
  refine z_icmp_eq (tgt := 35) hx hb (by omega) (by omega) dX2_compose_22 (by decide) (fun hc22 => ?_) (fun hc22 => ?_)
  · skip
    have hc22 : (xP u 6 j9) = (xP u 5 k9) := hc22
    refine lv_aload_n hx hb dX2_compose_35 rfl (lv_at hl 2 rfl) ?_
    refine z_cevV (As := []) (rest := []) ⟨hx, hb, hml, hown, hts⟩ (c_X2_checkRoomForPatch l D cs S0 ea mi sa a u sg hroom) (cwV 0 hts gX2_compose_X2_checkRoomForPatch rfl rfl rfl (by decide +kernel) ⟨Nat.le_of_ble_eq_true rfl, Nat.le_of_ble_eq_true rfl⟩) (hW.1 0 _ rfl) rfl (XH.of (Y := Y) hW hF) hK hE hS rfl hl.1 rfl (Nat.le_of_ble_eq_true rfl) dX2_compose_36 ⟨(by rw [hRc]; omega), (by rw [hRs]; omega)⟩ ?_
    refine lv_aload_n hx hb dX2_compose_39 rfl (lv_at hl 1 rfl) ?_
    refine z_get (ci := 1) (v := .ref (xP u 3 j9)) (C := RX0) (T := TX0) (N := 7) hx hb hts in1 hown hK (hpt j9 (by omega)).1.1 rfl 3 (by decide) fl132 (fun _ h9 => h9) rfl dX2_compose_40 ?_
    refine lv_aload hx hb dX2_compose_43 (lv_at hl 0 rfl) ?_
    refine z_get (ci := 1) (v := .ref (xP u 3 k9)) (C := RX0) (T := TX0) (N := 7) hx hb hts in1 hown hK (hpt k9 (by omega)).1.1 rfl 3 (by decide) fl132 (fun _ h9 => h9) rfl dX2_compose_45 ?_
    refine z_cmR (va_runS (As := [.ref (xP u 3 j9), .ref (xP u 3 k9)]) (rest := []) ⟨hx, hb, hml, hown, hts⟩ (c_X2_originsThrough l D cs S0 (XW cs a u sg Y) (xP u 3 j9) (xP u 3 k9) (psN sg.2.2.1 j9).2.1.length (psN sg.2.2.1 k9).2.1.length (rf (psN sg.2.2.1 j9).2.2) (rf (psN sg.2.2.1 k9).2.2) (XW_y _ (fpt j9 hj).1.2.1) (XW_y _ (fpt k9 hk).1.2.1) hob hnj hnk) (va_cwS 2 hts gX2_compose_X2_originsThrough rfl rfl rfl (by decide +kernel) ⟨Nat.le_of_ble_eq_true rfl, Nat.le_of_ble_eq_true rfl⟩) ⟨zP_blind, (zP_pre hW hK)⟩ rfl rfl hl.1 rfl (lv_room (Nat.le_of_ble_eq_true rfl)) dX2_compose_48 ⟨(by rw [hRc]; omega), (by rw [hRs]; omega)⟩) hS (fun u7 ra H locs hu hW hpr hS => ?_)
    have hW := Wd.cong (rf_map (n := (psN sg.2.2.1 k9).2.1.length) (F := cmpO (rf (psN sg.2.2.1 j9).2.2) (rf (psN sg.2.2.1 k9).2.2))) hW
    have hW := XW.grow (G := [(ra, fa cs (psN sg.2.2.1 k9).2.1.length (rf ((List.range (psN sg.2.2.1 k9).2.1.length).map (cmpO (rf (psN sg.2.2.1 j9).2.2) (rf (psN sg.2.2.1 k9).2.2)))))]) hW
    obtain ⟨Y1, hY1⟩ : ∃ z : va_W, z = [(ra, fa cs (psN sg.2.2.1 k9).2.1.length (rf ((List.range (psN sg.2.2.1 k9).2.1.length).map (cmpO (rf (psN sg.2.2.1 j9).2.2) (rf (psN sg.2.2.1 k9).2.2)))))] ++ Y := ⟨_, rfl⟩
    rw [← hY1] at hW
    have hra : (ra, fa cs (psN sg.2.2.1 k9).2.1.length (rf ((List.range (psN sg.2.2.1 k9).2.1.length).map (cmpO (rf (psN sg.2.2.1 j9).2.2) (rf (psN sg.2.2.1 k9).2.2))))) ∈ Y1 := by rw [hY1]; exact List.mem_cons_self
    have hF1 := hF.more (Y' := Y1) (fun q hq => by rw [hY1]; exact List.mem_append_right _ hq)
    have hW : Wd D S0 (((a 0), .inr (3, [.ref (a 1), .int (nI sg.1.length), .ref (a 4), .ref (a 5), .ref (xe u 3), .ref (a 6), .ref (a 2), .ref (a 3)])) :: ((a 1), fa cs 400 (xF u 0)) :: ((a 2), fa cs 200 (xF u 1)) :: ((a 3), fa cs 12 (xF u 2)) :: ((a 4), .inr (0, [.int (xm u 0), .ref (xe u 0), .int (nI sg.2.1.length)])) :: ((a 5), .inr (0, [.int (xm u 1), .ref (xe u 1), .int (nI sg.2.2.1.length)])) :: ((a 6), .inr (0, [.int (xm u 2), .ref (xe u 2), .int (nI sg.2.2.2.2.length)])) :: (XE cs u ++ Y1)) H := hW
    refine lv_astore (lv' := [(5, .ref ra), (4, .ref (xP u 0 k9)), (3, .ref (xP u 0 j9)), (0, .ref (a 0)), (1, .int (nI j9)), (2, .int (nI k9))]) hx hb dX2_compose_51 hl (by decide) rfl (fun ls hl => ?_)
    refine lv_aload_n hx hb dX2_compose_53 rfl (lv_at hl 3 rfl) ?_
    refine z_get (ci := 3) (v := .ref (a 5)) (C := RX2) (T := TX2) (N := 8) hx hb hts in3 hown hK (hW.1 0 _ rfl) rfl 3 (by decide) fl24 (fun _ h9 => h9) rfl dX2_compose_54 ?_
    refine z_new (ci := 1) (fs := [.int 0, .int 0, .null, .null, .null, .int 0, .int 0]) (C := RX0) (T := TX0) (N := 7) hx hb hts in1 tyX0 tyX0_ok hown (hts (.classLink RX2 111 RX0) (by decide +kernel)) (hts (.instantiable RX0 7) (by decide +kernel)) (hts (.initialized RX0) (by decide +kernel)) hK hW hS hS0 rfl (fun j hj => by rcases (show j = 0 ∨ j = 1 ∨ j = 2 ∨ j = 3 ∨ j = 4 ∨ j = 5 ∨ j = 6 by omega) with rfl | rfl | rfl | rfl | rfl | rfl | rfl <;> rfl) (by rw [hRc]; omega) (by rw [hRs]; omega) dX2_compose_57 (fun q57 H hW hS => ?_)
    have hW := Wd.mv (M := [((a 0), .inr (3, [.ref (a 1), .int (nI sg.1.length), .ref (a 4), .ref (a 5), .ref (xe u 3), .ref (a 6), .ref (a 2), .ref (a 3)])), ((a 1), fa cs 400 (xF u 0)), ((a 2), fa cs 200 (xF u 1)), ((a 3), fa cs 12 (xF u 2)), ((a 4), .inr (0, [.int (xm u 0), .ref (xe u 0), .int (nI sg.2.1.length)])), ((a 5), .inr (0, [.int (xm u 1), .ref (xe u 1), .int (nI sg.2.2.1.length)])), ((a 6), .inr (0, [.int (xm u 2), .ref (xe u 2), .int (nI sg.2.2.2.2.length)]))]) hW
    have hW : Wd D S0 (((a 0), .inr (3, [.ref (a 1), .int (nI sg.1.length), .ref (a 4), .ref (a 5), .ref (xe u 3), .ref (a 6), .ref (a 2), .ref (a 3)])) :: ((a 1), fa cs 400 (xF u 0)) :: ((a 2), fa cs 200 (xF u 1)) :: ((a 3), fa cs 12 (xF u 2)) :: ((a 4), .inr (0, [.int (xm u 0), .ref (xe u 0), .int (nI sg.2.1.length)])) :: ((a 5), .inr (0, [.int (xm u 1), .ref (xe u 1), .int (nI sg.2.2.1.length)])) :: ((a 6), .inr (0, [.int (xm u 2), .ref (xe u 2), .int (nI sg.2.2.2.2.length)])) :: (q57, .inr (1, [.int 0, .int 0, .null, .null, .null, .int 0, .int 0])) :: (XE cs u ++ Y1)) H := hW
    have hW : Wd D S0 ((q57, .inr (1, [.int 0, .int 0, .null, .null, .null, .int 0, .int 0])) :: XW cs a u sg Y1) H := hW.perm (List.perm_middle (l₁ := XL cs a u sg))
    have hW := XW.grow (G := [(q57, (.inr (1, [.int 0, .int 0, .null, .null, .null, .int 0, .int 0]) : va_E))]) hW
    have hFq := hF1.more (Y' := [(q57, (.inr (1, [.int 0, .int 0, .null, .null, .null, .int 0, .int 0]) : va_E))] ++ Y1) (fun q hq => List.mem_append_right _ hq)
    have hW : Wd D S0 (((a 0), .inr (3, [.ref (a 1), .int (nI sg.1.length), .ref (a 4), .ref (a 5), .ref (xe u 3), .ref (a 6), .ref (a 2), .ref (a 3)])) :: ((a 1), fa cs 400 (xF u 0)) :: ((a 2), fa cs 200 (xF u 1)) :: ((a 3), fa cs 12 (xF u 2)) :: ((a 4), .inr (0, [.int (xm u 0), .ref (xe u 0), .int (nI sg.2.1.length)])) :: ((a 5), .inr (0, [.int (xm u 1), .ref (xe u 1), .int (nI sg.2.2.1.length)])) :: ((a 6), .inr (0, [.int (xm u 2), .ref (xe u 2), .int (nI sg.2.2.2.2.length)])) :: (XE cs u ++ ([(q57, (.inr (1, [.int 0, .int 0, .null, .null, .null, .int 0, .int 0]) : va_E))] ++ Y1))) H := hW
    obtain ⟨hx0, hbf, hbc, hls, hlm, hlh, hrw, hpt, hin, hhr, -⟩ := XH.of (Y := ([(q57, (.inr (1, [.int 0, .int 0, .null, .null, .null, .int 0, .int 0]) : va_E))] ++ Y1)) hW hFq
    refine lv_dup hx hb dX2_compose_60 rfl ?_
    refine lv_aload_n hx hb dX2_compose_61 rfl (lv_at hl 2 rfl) ?_
    refine z_get (ci := 1) (v := .int (nI (xP u 5 j9))) (C := RX0) (T := TX0) (N := 7) hx hb hts in1 hown hK (hpt j9 (by omega)).1.1 rfl 0 (by decide) fl127 (fun _ h9 => h9) rfl dX2_compose_62 ?_
    refine lv_aload hx hb dX2_compose_65 (lv_at hl 1 rfl) ?_
    refine z_get (ci := 1) (v := .int (nI (xP u 6 k9))) (C := RX0) (T := TX0) (N := 7) hx hb hts in1 hown hK (hpt k9 (by omega)).1.1 rfl 1 (by decide) fl124 (fun _ h9 => h9) rfl dX2_compose_67 ?_
    refine lv_aload hx hb dX2_compose_70 (lv_at hl 1 rfl) ?_
    refine z_get (ci := 1) (v := .ref (xP u 1 k9)) (C := RX0) (T := TX0) (N := 7) hx hb hts in1 hown hK (hpt k9 (by omega)).1.1 rfl 2 (by decide) fl139 (fun _ h9 => h9) rfl dX2_compose_72 ?_
    refine lv_aload hx hb dX2_compose_75 (lv_at hl 0 rfl) ?_
    have hW := XW.shrink (G := [(q57, (.inr (1, [.int 0, .int 0, .null, .null, .null, .int 0, .int 0]) : va_E))]) (Y := Y1) (u := u) (σ := sg) (cs := cs) (a := a) hW
    refine z_cmV (va_runI (As := [.int (nI (xP u 5 j9)), .int (nI (xP u 6 k9)), .ref (xP u 1 k9), .ref ra]) (rest := [.ref q57, .ref (a 5)]) ⟨hx, hb, hml, hown, hts⟩ (c_X0_init l D cs S0 ea mi sa (XW cs a u sg Y1) q57 ra (xP u 1 k9) (psN sg.2.2.1 k9).2.1.length (nI (xP u 5 j9)) (nI (xP u 6 k9)) (rf ((List.range (psN sg.2.2.1 k9).2.1.length).map (cmpO (rf (psN sg.2.2.1 j9).2.2) (rf (psN sg.2.2.1 k9).2.2)))) (XW_y _ hra) (by omega)) (cwI 4 hts gX2_compose_X0_init rfl rfl rfl (hts (.initialized RX0) (by decide +kernel)) (hts (.methodLink RX2 117 yX0_init) (by decide +kernel)) (hts (.instanceMethod yX0_init) (by decide +kernel)) rfl (by decide +kernel) ⟨Nat.le_of_ble_eq_true rfl, Nat.le_of_ble_eq_true rfl⟩) ⟨zE_blind, (zE_pre hW hK hE hS)⟩ rfl rfl hl.1 rfl (lv_room (Nat.le_of_ble_eq_true rfl)) dX2_compose_77 ⟨(by rw [hRc]; omega), (by rw [hRs]; omega)⟩) hS (fun u9 H locs hu hW hS => ?_)
    have hW := XW.grow (G := [(u9.1, fa cs (manyN (rf ((List.range (psN sg.2.2.1 k9).2.1.length).map (cmpO (rf (psN sg.2.2.1 j9).2.2) (rf (psN sg.2.2.1 k9).2.2)))) (psN sg.2.2.1 k9).2.1.length) (fun i => nI (posN (rf ((List.range (psN sg.2.2.1 k9).2.1.length).map (cmpO (rf (psN sg.2.2.1 j9).2.2) (rf (psN sg.2.2.1 k9).2.2)))) (psN sg.2.2.1 k9).2.1.length i))), (u9.2.1, fa cs (psN sg.2.2.1 k9).2.1.length u9.2.2), (q57, .inr (1, [.int (nI (xP u 5 j9)), .int (nI (xP u 6 k9)), .ref (xP u 1 k9), .ref ra, .ref u9.1, .int (nI (litN (rf ((List.range (psN sg.2.2.1 k9).2.1.length).map (cmpO (rf (psN sg.2.2.1 j9).2.2) (rf (psN sg.2.2.1 k9).2.2)))) (psN sg.2.2.1 k9).2.1.length)), .int (nI (costN (rf ((List.range (psN sg.2.2.1 k9).2.1.length).map (cmpO (rf (psN sg.2.2.1 j9).2.2) (rf (psN sg.2.2.1 k9).2.2)))) (psN sg.2.2.1 k9).2.1.length))]))]) hW
    obtain ⟨G2, hG2⟩ : ∃ z : va_W, z = [(u9.1, fa cs (manyN (rf ((List.range (psN sg.2.2.1 k9).2.1.length).map (cmpO (rf (psN sg.2.2.1 j9).2.2) (rf (psN sg.2.2.1 k9).2.2)))) (psN sg.2.2.1 k9).2.1.length) (fun i => nI (posN (rf ((List.range (psN sg.2.2.1 k9).2.1.length).map (cmpO (rf (psN sg.2.2.1 j9).2.2) (rf (psN sg.2.2.1 k9).2.2)))) (psN sg.2.2.1 k9).2.1.length i))), (u9.2.1, fa cs (psN sg.2.2.1 k9).2.1.length u9.2.2), (q57, .inr (1, [.int (nI (xP u 5 j9)), .int (nI (xP u 6 k9)), .ref (xP u 1 k9), .ref ra, .ref u9.1, .int (nI (litN (rf ((List.range (psN sg.2.2.1 k9).2.1.length).map (cmpO (rf (psN sg.2.2.1 j9).2.2) (rf (psN sg.2.2.1 k9).2.2)))) (psN sg.2.2.1 k9).2.1.length)), .int (nI (costN (rf ((List.range (psN sg.2.2.1 k9).2.1.length).map (cmpO (rf (psN sg.2.2.1 j9).2.2) (rf (psN sg.2.2.1 k9).2.2)))) (psN sg.2.2.1 k9).2.1.length))]))] ++ [(ra, fa cs (psN sg.2.2.1 k9).2.1.length (rf ((List.range (psN sg.2.2.1 k9).2.1.length).map (cmpO (rf (psN sg.2.2.1 j9).2.2) (rf (psN sg.2.2.1 k9).2.2)))))] := ⟨_, rfl⟩
    rw [hY1, ← List.append_assoc, ← hG2] at hW
    obtain ⟨Y2, hY2⟩ : ∃ z : va_W, z = G2 ++ Y := ⟨_, rfl⟩
    rw [← hY2] at hW
    have hm2 : ∀ q ∈ Y, q ∈ Y2 := fun q hq => by rw [hY2]; exact List.mem_append_right _ hq
    have hF2 := hF.more hm2
    have hg1 : (u9.1, fa cs (manyN (rf ((List.range (psN sg.2.2.1 k9).2.1.length).map (cmpO (rf (psN sg.2.2.1 j9).2.2) (rf (psN sg.2.2.1 k9).2.2)))) (psN sg.2.2.1 k9).2.1.length) (fun i => nI (posN (rf ((List.range (psN sg.2.2.1 k9).2.1.length).map (cmpO (rf (psN sg.2.2.1 j9).2.2) (rf (psN sg.2.2.1 k9).2.2)))) (psN sg.2.2.1 k9).2.1.length i))) ∈ Y2 := by rw [hY2, hG2]; exact List.mem_append_left _ List.mem_cons_self
    have hg2 : (q57, (.inr (1, [.int (nI (xP u 5 j9)), .int (nI (xP u 6 k9)), .ref (xP u 1 k9), .ref ra, .ref u9.1, .int (nI (litN (rf ((List.range (psN sg.2.2.1 k9).2.1.length).map (cmpO (rf (psN sg.2.2.1 j9).2.2) (rf (psN sg.2.2.1 k9).2.2)))) (psN sg.2.2.1 k9).2.1.length)), .int (nI (costN (rf ((List.range (psN sg.2.2.1 k9).2.1.length).map (cmpO (rf (psN sg.2.2.1 j9).2.2) (rf (psN sg.2.2.1 k9).2.2)))) (psN sg.2.2.1 k9).2.1.length))]) : va_E)) ∈ Y2 := by rw [hY2, hG2]; exact List.mem_append_left _ (List.mem_cons_of_mem _ (List.mem_cons_of_mem _ List.mem_cons_self))
    have hg3 : (ra, fa cs (psN sg.2.2.1 k9).2.1.length (rf ((List.range (psN sg.2.2.1 k9).2.1.length).map (cmpO (rf (psN sg.2.2.1 j9).2.2) (rf (psN sg.2.2.1 k9).2.2))))) ∈ Y2 := by rw [hY2, hG2]; exact List.mem_append_left _ (List.mem_cons_of_mem _ (List.mem_cons_of_mem _ (List.mem_cons_of_mem _ List.mem_cons_self)))
    have hW : Wd D S0 (((a 0), .inr (3, [.ref (a 1), .int (nI sg.1.length), .ref (a 4), .ref (a 5), .ref (xe u 3), .ref (a 6), .ref (a 2), .ref (a 3)])) :: ((a 1), fa cs 400 (xF u 0)) :: ((a 2), fa cs 200 (xF u 1)) :: ((a 3), fa cs 12 (xF u 2)) :: ((a 4), .inr (0, [.int (xm u 0), .ref (xe u 0), .int (nI sg.2.1.length)])) :: ((a 5), .inr (0, [.int (xm u 1), .ref (xe u 1), .int (nI sg.2.2.1.length)])) :: ((a 6), .inr (0, [.int (xm u 2), .ref (xe u 2), .int (nI sg.2.2.2.2.length)])) :: (XE cs u ++ Y2)) H := hW
    have hW := XW.out1 (u := u) (σ := sg) (Y := Y2) hW
    refine z_cmI (va_runV (As := [.ref q57]) (rest := []) ⟨hx, hb, hml, hown, hts⟩ (c_add l D cs S0 ea mi sa (XR1 cs a u sg ++ Y2) (a 5) (xe u 1) sg.2.2.1.length (xc u 1) 1 (xm u 1) (xg u 1) fl1.1 fl1.2.2.1 fl1.2.1 (by omega) (Or.inl rfl) (fun i hi => ⟨xP u 0 i, _, fl1.2.2.2 i hi, List.mem_append_right _ (hF2.2.2.2.2.2.1 i hi).1.1⟩) q57 _ (List.mem_append_right _ hg2)) (cwV 1 hts gX2_compose_Jx4a65c_add_9ea2d rfl rfl rfl (by decide +kernel) ⟨Nat.le_of_ble_eq_true rfl, Nat.le_of_ble_eq_true rfl⟩) ⟨zE_blind, z_recv hK (hW.1 0 _ rfl) rfl, (zE_pre hW hK hE hS)⟩ rfl rfl hl.1 rfl (lv_room (Nat.le_of_ble_eq_true rfl)) dX2_compose_80 ⟨(by rw [hRc]; omega), (by rw [hRs]; omega)⟩) hS (fun r u8 H locs hu hW hS => ?_)
    have hlen : (stP sg (((psN sg.2.2.1 j9).1, (psN sg.2.2.1 k9).2.1, ((List.range (psN sg.2.2.1 k9).2.1.length).map (cmpO (rf (psN sg.2.2.1 j9).2.2) (rf (psN sg.2.2.1 k9).2.2)))) : Pt)).2.2.1.length = sg.2.2.1.length + 1 := List.length_append
    rw [← hlen] at hW
    have hW := XW.in1 (u := (xuP u (xm u 1 + nI 1) u8 sg.2.2.1.length (fun i => [q57, (xP u 1 k9), (xP u 2 k9), ra, u9.1, xP u 5 j9, xP u 6 k9].getD i 0))) (σ := stP sg (((psN sg.2.2.1 j9).1, (psN sg.2.2.1 k9).2.1, ((List.range (psN sg.2.2.1 k9).2.1.length).map (cmpO (rf (psN sg.2.2.1 j9).2.2) (rf (psN sg.2.2.1 k9).2.2)))) : Pt)) hW
    have hF3 := (hF2.addP (q := (((psN sg.2.2.1 j9).1, (psN sg.2.2.1 k9).2.1, ((List.range (psN sg.2.2.1 k9).2.1.length).map (cmpO (rf (psN sg.2.2.1 j9).2.2) (rf (psN sg.2.2.1 k9).2.2)))) : Pt)) (w := (fun i => [q57, (xP u 1 k9), (xP u 2 k9), ra, u9.1, xP u 5 j9, xP u 6 k9].getD i 0)) (mc := xm u 1 + nI 1) hu hg2 hg3 hg1 ((hF2.2.2.2.2.2.1 k9 hk).1.2.2.2) ((fpt j9 hj).2.1) ((fpt k9 hk).2.2) (⟨(hok.2.2.1.2 j9 hj).1, (hok.2.2.1.2 k9 hk).2.1, rf_len, fun k hk2 => by rw [← rf_map (n := (psN sg.2.2.1 k9).2.1.length) (F := cmpO (rf (psN sg.2.2.1 j9).2.2) (rf (psN sg.2.2.1 k9).2.2)) k hk2]; exact cmp_ok (hok.2.2.1.2 j9 hj).2.2.2 hob hnj k hk2⟩) hroom).more (Y' := u8.2.2.2 ++ Y2) (fun q hq => List.mem_append_right _ hq)
    have hW : Wd D S0 (((a 0), .inr (3, [.ref (a 1), .int (nI sg.1.length), .ref (a 4), .ref (a 5), .ref (xe (xuP u (xm u 1 + nI 1) u8 sg.2.2.1.length (fun i => [q57, (xP u 1 k9), (xP u 2 k9), ra, u9.1, xP u 5 j9, xP u 6 k9].getD i 0)) 3), .ref (a 6), .ref (a 2), .ref (a 3)])) :: ((a 1), fa cs 400 (xF (xuP u (xm u 1 + nI 1) u8 sg.2.2.1.length (fun i => [q57, (xP u 1 k9), (xP u 2 k9), ra, u9.1, xP u 5 j9, xP u 6 k9].getD i 0)) 0)) :: ((a 2), fa cs 200 (xF (xuP u (xm u 1 + nI 1) u8 sg.2.2.1.length (fun i => [q57, (xP u 1 k9), (xP u 2 k9), ra, u9.1, xP u 5 j9, xP u 6 k9].getD i 0)) 1)) :: ((a 3), fa cs 12 (xF (xuP u (xm u 1 + nI 1) u8 sg.2.2.1.length (fun i => [q57, (xP u 1 k9), (xP u 2 k9), ra, u9.1, xP u 5 j9, xP u 6 k9].getD i 0)) 2)) :: ((a 4), .inr (0, [.int (xm (xuP u (xm u 1 + nI 1) u8 sg.2.2.1.length (fun i => [q57, (xP u 1 k9), (xP u 2 k9), ra, u9.1, xP u 5 j9, xP u 6 k9].getD i 0)) 0), .ref (xe (xuP u (xm u 1 + nI 1) u8 sg.2.2.1.length (fun i => [q57, (xP u 1 k9), (xP u 2 k9), ra, u9.1, xP u 5 j9, xP u 6 k9].getD i 0)) 0), .int (nI sg.2.1.length)])) :: ((a 5), .inr (0, [.int (xm u 1 + nI 1), .ref u8.1, .int (nI ((stP sg (((psN sg.2.2.1 j9).1, (psN sg.2.2.1 k9).2.1, ((List.range (psN sg.2.2.1 k9).2.1.length).map (cmpO (rf (psN sg.2.2.1 j9).2.2) (rf (psN sg.2.2.1 k9).2.2)))) : Pt)).2.2.1.length))])) :: ((a 6), .inr (0, [.int (xm (xuP u (xm u 1 + nI 1) u8 sg.2.2.1.length (fun i => [q57, (xP u 1 k9), (xP u 2 k9), ra, u9.1, xP u 5 j9, xP u 6 k9].getD i 0)) 2), .ref (xe (xuP u (xm u 1 + nI 1) u8 sg.2.2.1.length (fun i => [q57, (xP u 1 k9), (xP u 2 k9), ra, u9.1, xP u 5 j9, xP u 6 k9].getD i 0)) 2), .int (nI sg.2.2.2.2.length)])) :: (XE cs (xuP u (xm u 1 + nI 1) u8 sg.2.2.1.length (fun i => [q57, (xP u 1 k9), (xP u 2 k9), ra, u9.1, xP u 5 j9, xP u 6 k9].getD i 0)) ++ (u8.2.2.2 ++ Y2))) H := hW
    refine lv_pop hx hb dX2_compose_83 rfl ?_
    refine lv_aload_n hx hb dX2_compose_84 rfl (lv_at hl 3 rfl) ?_
    refine z_get (ci := 3) (v := .ref (a 5)) (C := RX2) (T := TX2) (N := 8) hx hb hts in3 hown hK (hW.1 0 _ rfl) rfl 3 (by decide) fl24 (fun _ h9 => h9) rfl dX2_compose_85 ?_
    refine z_csV (As := []) (rest := []) ⟨hx, hb, hml, hown, hts⟩ (c_Jx4a65c_size_8abf5 l D cs (a 5) u8.1 (stP sg (((psN sg.2.2.1 j9).1, (psN sg.2.2.1 k9).2.1, ((List.range (psN sg.2.2.1 k9).2.1.length).map (cmpO (rf (psN sg.2.2.1 j9).2.2) (rf (psN sg.2.2.1 k9).2.2)))) : Pt)).2.2.1.length (xm u 1 + nI 1)) (cwV 0 hts gX2_compose_Jx4a65c_size_8abf5 rfl rfl rfl (by decide +kernel) ⟨Nat.le_of_ble_eq_true rfl, Nat.le_of_ble_eq_true rfl⟩) (hW.1 5 _ rfl) rfl (hW.1 5 _ rfl) hK rfl hl.1 rfl (Nat.le_of_ble_eq_true rfl) dX2_compose_88 ⟨(by rw [hRc]; omega), (by rw [hRs]; omega)⟩ (fun r hq9 => ?_)
    have hq9 : r = nI ((stP sg (((psN sg.2.2.1 j9).1, (psN sg.2.2.1 k9).2.1, ((List.range (psN sg.2.2.1 k9).2.1.length).map (cmpO (rf (psN sg.2.2.1 j9).2.2) (rf (psN sg.2.2.1 k9).2.2)))) : Pt)).2.2.1.length) := hq9
    subst hq9
    refine lv_iconst (v := nI 1) hx hb dX2_compose_91 (by decide) ?_
    refine lv_isub hx hb dX2_compose_92 ?_
    refine zti (pk_sub (by omega)) (y := nI (((stP sg (((psN sg.2.2.1 j9).1, (psN sg.2.2.1 k9).2.1, ((List.range (psN sg.2.2.1 k9).2.1.length).map (cmpO (rf (psN sg.2.2.1 j9).2.2) (rf (psN sg.2.2.1 k9).2.2)))) : Pt)).2.2.1.length) - 1)) ?_
    have hW : Wd D S0 (XW cs a (xuP u (xm u 1 + nI 1) u8 sg.2.2.1.length (fun i => [q57, (xP u 1 k9), (xP u 2 k9), ra, u9.1, xP u 5 j9, xP u 6 k9].getD i 0)) (stP sg (((psN sg.2.2.1 j9).1, (psN sg.2.2.1 k9).2.1, ((List.range (psN sg.2.2.1 k9).2.1.length).map (cmpO (rf (psN sg.2.2.1 j9).2.2) (rf (psN sg.2.2.1 k9).2.2)))) : Pt)) ((u8.2.2.2 ++ G2) ++ Y)) H := by
      rw [List.append_assoc, ← hY2]; exact hW
    have hF4 : XF cs ea (xuP u (xm u 1 + nI 1) u8 sg.2.2.1.length (fun i => [q57, (xP u 1 k9), (xP u 2 k9), ra, u9.1, xP u 5 j9, xP u 6 k9].getD i 0)) (stP sg (((psN sg.2.2.1 j9).1, (psN sg.2.2.1 k9).2.1, ((List.range (psN sg.2.2.1 k9).2.1.length).map (cmpO (rf (psN sg.2.2.1 j9).2.2) (rf (psN sg.2.2.1 k9).2.2)))) : Pt)) ((u8.2.2.2 ++ G2) ++ Y) := by
      rw [List.append_assoc, ← hY2]; exact hF3
    refine W.widen (k := 5) (n := 1607) (by omega) (by omega) ?_
    exact W.iret (v := nI (((stP sg (((psN sg.2.2.1 j9).1, (psN sg.2.2.1 k9).2.1, ((List.range (psN sg.2.2.1 k9).2.1.length).map (cmpO (rf (psN sg.2.2.1 j9).2.2) (rf (psN sg.2.2.1 k9).2.2)))) : Pt)).2.2.1.length) - 1)) hx hb hr (fun t ht hW9 => ⟨⟨_, ((xuP u (xm u 1 + nI 1) u8 sg.2.2.1.length (fun i => [q57, (xP u 1 k9), (xP u 2 k9), ra, u9.1, xP u 5 j9, xP u 6 k9].getD i 0)), u8.2.2.2 ++ G2), rfl, ⟨congrArg nI (by rw [hlen]; rfl), hF4⟩, (by show Wd D S0 _ _; rw [ht]; exact hW)⟩, hS.F ht⟩) (fun q9 h9 => hS.2.2 q9 h9) dX2_compose_93
  · skip
    have hc22 : ¬ (xP u 6 j9) = (xP u 5 k9) := hc22
    omega

