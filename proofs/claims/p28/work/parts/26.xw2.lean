/-! the class's methods that write -/
set_option maxHeartbeats 4000000 in
set_option maxRecDepth 100000 in
theorem c_X2_store (l : Launch) (D : va_G) (cs : Nat → ClassId) (S0 : Nat) (ea mi : Nat) (sa : Nat → Nat) (Y : va_W) (a : Nat → Nat) (u : XU) (sg : St) (hF : XF cs ea u sg Y) (hroom : sg.2.1.length < 12) : Met l yX2_store wsX2_store ({ frames := 7, cells := 3, slots := 801, locals := 171 }) (zE [.ref (a 0)] (fun H => Wd D S0 (XW cs a u sg Y) H) D cs S0 ea mi sa) (va_Qi (fun r (v : XU × va_W) => r = nI sg.2.1.length ∧ XF cs ea v.1 (stB0 (stV sg sg.1) []) (v.2 ++ Y)) (fun v t => Wd D S0 (XW cs a v.1 (stB0 (stV sg sg.1) []) (v.2 ++ Y)) t.heap) (SA S0)) 3 801 (SA S0) := by
  refine Met.ofW (cc := cX2_store) (maxL := 1) (ret := (some .int)) (by decide) rfl ?_
  intro p e s m args below meth c s₁ B hml hv
  obtain ⟨rfl, hW, hK, hE⟩ := hv
  have hx := B.exec
  have hb := B.bytes
  have hr := B.returns
  have hts := atoms_spec (ws := wsX2_store) B.pre
  have hown : s.vm.findClass RX2 = some m.cls := findClass_of_methodNamed B.named
  have hlocks := B.notSynchronized
  have hRc : (headSpec wsX2_store ({ frames := 7, cells := 3, slots := 801, locals := 171 })).room.cells = 3 := rfl
  have hRs : (headSpec wsX2_store ({ frames := 7, cells := 3, slots := 801, locals := 171 })).room.slots = 801 := rfl
  have fl13 := hts (.fieldLink RX2 13 "DeltaUpdater" "buffered" "I") (by decide +kernel)
  have fl20 := hts (.fieldLink RX2 20 "DeltaUpdater" "stored" "Ljava/util/ArrayList;") (by decide +kernel)
  have fl9 := hts (.fieldLink RX2 9 "DeltaUpdater" "buffer" "[I") (by decide +kernel)
  have in2 : ∀ w ∈ u_ws RX1 TX1 1, w ∈ wsX2_store := by decide +kernel
  have in3 : ∀ w ∈ u_ws RX2 TX2 8, w ∈ wsX2_store := by decide +kernel
  have hW : Wd D S0 (XW cs a u sg Y) s.heap := hW
  have hS0 : S0 ≤ s.heap.size := hW.2.2
  have hS : va_S (SA S0) s.heap s.heap [] := va_S.rf
  have hl := lv_entry ([.ref (a 0)]) (n := 1) (Nat.le_of_ble_eq_true rfl)
  rw [lg_entry_eq]
  generalize (lg_sl ([.ref (a 0)]) ++ List.replicate (1 - (lg_sl ([.ref (a 0)])).length) Slot.unset).toArray = ls at hl ⊢
  have hl : lv_has ls 1 [(0, .ref (a 0))] := hl
  obtain ⟨hbf, hl0, hl1, hl2, hrw, hpt, hin, hhi, hok⟩ := id hF
  have hbl := hok.1.1
  have hnv := hok.2.1.1
  have hnp := hok.2.2.1.1
  have hnh := hok.2.2.2.2.1
  refine lv_aload_n hx hb dX2_store_0 rfl (lv_at hl 0 rfl) ?_
  refine z_cevV (As := []) (rest := []) ⟨hx, hb, hml, hown, hts⟩ (c_X2_checkRoomForVersion l D cs S0 ea mi sa a u sg hroom) (cwV 0 hts gX2_store_X2_checkRoomForVersion rfl rfl rfl (by decide +kernel) ⟨Nat.le_of_ble_eq_true rfl, Nat.le_of_ble_eq_true rfl⟩) (hW.1 0 _ rfl) rfl (XH.of (Y := Y) hW hF) hK hE hS rfl hl.1 rfl (Nat.le_of_ble_eq_true rfl) dX2_store_1 ⟨(by rw [hRc]; omega), (by rw [hRs]; omega)⟩ ?_
  refine lv_aload_n hx hb dX2_store_4 rfl (lv_at hl 0 rfl) ?_
  refine z_get (ci := 3) (v := .ref (a 4)) (C := RX2) (T := TX2) (N := 8) hx hb hts in3 hown hK (hW.1 0 _ rfl) rfl 2 (by decide) fl20 (fun _ h9 => h9) rfl dX2_store_5 ?_
  refine z_new (ci := 2) (fs := [.null]) (C := RX1) (T := TX1) (N := 1) hx hb hts in2 tyX1 tyX1_ok hown (hts (.classLink RX2 27 RX1) (by decide +kernel)) (hts (.instantiable RX1 1) (by decide +kernel)) (hts (.initialized RX1) (by decide +kernel)) hK hW hS hS0 rfl (fun j hj => by rcases (show j = 0 by omega) with rfl <;> rfl) (by rw [hRc]; omega) (by rw [hRs]; omega) dX2_store_8 (fun q8 H hW hS => ?_)
  have hW := Wd.mv (M := [((a 0), .inr (3, [.ref (a 1), .int (nI sg.1.length), .ref (a 4), .ref (a 5), .ref (xe u 3), .ref (a 6), .ref (a 2), .ref (a 3)])), ((a 1), fa cs 400 (xF u 0)), ((a 2), fa cs 200 (xF u 1)), ((a 3), fa cs 12 (xF u 2)), ((a 4), .inr (0, [.int (xm u 0), .ref (xe u 0), .int (nI sg.2.1.length)])), ((a 5), .inr (0, [.int (xm u 1), .ref (xe u 1), .int (nI sg.2.2.1.length)])), ((a 6), .inr (0, [.int (xm u 2), .ref (xe u 2), .int (nI sg.2.2.2.2.length)]))]) hW
  have hW : Wd D S0 (((a 0), .inr (3, [.ref (a 1), .int (nI sg.1.length), .ref (a 4), .ref (a 5), .ref (xe u 3), .ref (a 6), .ref (a 2), .ref (a 3)])) :: ((a 1), fa cs 400 (xF u 0)) :: ((a 2), fa cs 200 (xF u 1)) :: ((a 3), fa cs 12 (xF u 2)) :: ((a 4), .inr (0, [.int (xm u 0), .ref (xe u 0), .int (nI sg.2.1.length)])) :: ((a 5), .inr (0, [.int (xm u 1), .ref (xe u 1), .int (nI sg.2.2.1.length)])) :: ((a 6), .inr (0, [.int (xm u 2), .ref (xe u 2), .int (nI sg.2.2.2.2.length)])) :: (q8, .inr (2, [.null])) :: (XE cs u ++ Y)) H := hW
  refine lv_dup hx hb dX2_store_11 rfl ?_
  refine lv_aload_n hx hb dX2_store_12 rfl (lv_at hl 0 rfl) ?_
  refine z_get (ci := 3) (v := .ref (a 1)) (C := RX2) (T := TX2) (N := 8) hx hb hts in3 hown hK (hW.1 0 _ rfl) rfl 0 (by decide) fl9 (fun _ h9 => h9) rfl dX2_store_13 ?_
  refine lv_aload_n hx hb dX2_store_16 rfl (lv_at hl 0 rfl) ?_
  refine z_get (ci := 3) (v := .int (nI sg.1.length)) (C := RX2) (T := TX2) (N := 8) hx hb hts in3 hown hK (hW.1 0 _ rfl) rfl 1 (by decide) fl13 (fun _ h9 => h9) rfl dX2_store_17 ?_
  have hW : Wd D S0 ((q8, .inr (2, [.null])) :: XW cs a u sg Y) H := hW.perm (List.perm_middle (l₁ := XL cs a u sg))
  refine z_cmV (va_runI (As := [.ref (a 1), .int (nI sg.1.length)]) (rest := [.ref q8, .ref (a 4)]) ⟨hx, hb, hml, hown, hts⟩ (c_X1_init l D cs S0 ea mi sa (XW cs a u sg Y) q8 (a 1) 400 sg.1.length (xF u 0) (XW_l 1 rfl) hbl (Nat.le_refl _)) (cwI 2 hts gX2_store_X1_init rfl rfl rfl (hts (.initialized RX1) (by decide +kernel)) (hts (.methodLink RX2 29 yX1_init) (by decide +kernel)) (hts (.instanceMethod yX1_init) (by decide +kernel)) rfl (by decide +kernel) ⟨Nat.le_of_ble_eq_true rfl, Nat.le_of_ble_eq_true rfl⟩) ⟨zE_blind, (zE_pre hW hK hE hS)⟩ rfl rfl hl.1 rfl (lv_room (Nat.le_of_ble_eq_true rfl)) dX2_store_20 ⟨(by rw [hRc]; omega), (by rw [hRs]; omega)⟩) hS (fun u9 H locs hu hW hS => ?_)
  have hW := Wd.cong hbf hW
  have hW := XW.grow (G := [(u9, ba cs sg.1), (q8, .inr (2, [.ref u9]))]) hW
  obtain ⟨Y2, hY2⟩ : ∃ z : va_W, z = [(u9, ba cs sg.1), (q8, (.inr (2, [.ref u9]) : va_E))] ++ Y := ⟨_, rfl⟩
  rw [← hY2] at hW
  have hr2 : RM cs q8 u9 sg.1 Y2 := by rw [hY2]; exact ⟨List.mem_cons_of_mem _ List.mem_cons_self, List.mem_cons_self⟩
  have hm2 : ∀ q ∈ Y, q ∈ Y2 := fun q hq => by rw [hY2]; exact List.mem_append_right _ hq
  have hF2 := hF.more hm2
  have hW : Wd D S0 (((a 0), .inr (3, [.ref (a 1), .int (nI sg.1.length), .ref (a 4), .ref (a 5), .ref (xe u 3), .ref (a 6), .ref (a 2), .ref (a 3)])) :: ((a 1), fa cs 400 (xF u 0)) :: ((a 2), fa cs 200 (xF u 1)) :: ((a 3), fa cs 12 (xF u 2)) :: ((a 4), .inr (0, [.int (xm u 0), .ref (xe u 0), .int (nI sg.2.1.length)])) :: ((a 5), .inr (0, [.int (xm u 1), .ref (xe u 1), .int (nI sg.2.2.1.length)])) :: ((a 6), .inr (0, [.int (xm u 2), .ref (xe u 2), .int (nI sg.2.2.2.2.length)])) :: (XE cs u ++ Y2)) H := hW
  have hW := XW.out0 (u := u) (σ := sg) (Y := Y2) hW
  refine z_cmI (va_runV (As := [.ref q8]) (rest := []) ⟨hx, hb, hml, hown, hts⟩ (c_add l D cs S0 ea mi sa (XR0 cs a u sg ++ Y2) (a 4) (xe u 0) sg.2.1.length (xc u 0) 2 (xm u 0) (xg u 0) hl0.1 hl0.2.2.1 hl0.2.1 (by omega) (Or.inr rfl) (fun i hi => ⟨xR u 0 i, _, hl0.2.2.2 i hi, List.mem_append_right _ (hF2.2.2.2.2.1 i hi).1⟩) q8 [.ref u9] (List.mem_append_right _ hr2.1)) (cwV 1 hts gX2_store_Jx4a65c_add_9ea2d rfl rfl rfl (by decide +kernel) ⟨Nat.le_of_ble_eq_true rfl, Nat.le_of_ble_eq_true rfl⟩) ⟨zE_blind, z_recv hK (hW.1 0 _ rfl) rfl, (zE_pre hW hK hE hS)⟩ rfl rfl hl.1 rfl (lv_room (Nat.le_of_ble_eq_true rfl)) dX2_store_23 ⟨(by rw [hRc]; omega), (by rw [hRs]; omega)⟩) hS (fun r u8 H locs hu hW hS => ?_)
  have hlen : (stV sg sg.1).2.1.length = sg.2.1.length + 1 := List.length_append
  rw [← hlen] at hW
  have hW := XW.in0 (u := xuA u 0 (xm u 0 + nI 1) u8 sg.2.1.length q8 u9) (σ := stV sg sg.1) hW
  have hF3 := (hF2.addV (mc := xm u 0 + nI 1) hu hr2 hok.1 hroom).more (Y' := u8.2.2.2 ++ Y2) (fun q hq => List.mem_append_right _ hq)
  have hW : Wd D S0 (((a 0), .inr (3, [.ref (a 1), .int (nI sg.1.length), .ref (a 4), .ref (a 5), .ref (xe (xuA u 0 (xm u 0 + nI 1) u8 sg.2.1.length q8 u9) 3), .ref (a 6), .ref (a 2), .ref (a 3)])) :: ((a 1), fa cs 400 (xF (xuA u 0 (xm u 0 + nI 1) u8 sg.2.1.length q8 u9) 0)) :: ((a 2), fa cs 200 (xF (xuA u 0 (xm u 0 + nI 1) u8 sg.2.1.length q8 u9) 1)) :: ((a 3), fa cs 12 (xF (xuA u 0 (xm u 0 + nI 1) u8 sg.2.1.length q8 u9) 2)) :: ((a 4), .inr (0, [.int (xm u 0 + nI 1), .ref u8.1, .int (nI ((stV sg sg.1).2.1.length))])) :: ((a 5), .inr (0, [.int (xm (xuA u 0 (xm u 0 + nI 1) u8 sg.2.1.length q8 u9) 1), .ref (xe (xuA u 0 (xm u 0 + nI 1) u8 sg.2.1.length q8 u9) 1), .int (nI sg.2.2.1.length)])) :: ((a 6), .inr (0, [.int (xm (xuA u 0 (xm u 0 + nI 1) u8 sg.2.1.length q8 u9) 2), .ref (xe (xuA u 0 (xm u 0 + nI 1) u8 sg.2.1.length q8 u9) 2), .int (nI sg.2.2.2.2.length)])) :: (XE cs (xuA u 0 (xm u 0 + nI 1) u8 sg.2.1.length q8 u9) ++ (u8.2.2.2 ++ Y2))) H := hW
  refine lv_pop hx hb dX2_store_26 rfl ?_
  refine lv_aload_n hx hb dX2_store_27 rfl (lv_at hl 0 rfl) ?_
  refine lv_iconst (v := nI 0) hx hb dX2_store_28 (by decide) ?_
  refine z_put (ty := .int) (ci := 3) (v := .int (nI 0)) (C := RX2) (T := TX2) (N := 8) hx hb hts in3 tyX2 tyX2_ok nmX2 hown hK hW hS 0 rfl rfl 1 (by decide) fl13 (fun _ h9 => h9) rfl (by decide +kernel) rfl rfl (Nat.le_of_ble_eq_true rfl) dX2_store_29 (fun H locs hW hS => ?_)
  have hW : Wd D S0 (((a 0), .inr (3, [.ref (a 1), .int (nI 0), .ref (a 4), .ref (a 5), .ref (xe (xuA u 0 (xm u 0 + nI 1) u8 sg.2.1.length q8 u9) 3), .ref (a 6), .ref (a 2), .ref (a 3)])) :: ((a 1), fa cs 400 (xF (xuA u 0 (xm u 0 + nI 1) u8 sg.2.1.length q8 u9) 0)) :: ((a 2), fa cs 200 (xF (xuA u 0 (xm u 0 + nI 1) u8 sg.2.1.length q8 u9) 1)) :: ((a 3), fa cs 12 (xF (xuA u 0 (xm u 0 + nI 1) u8 sg.2.1.length q8 u9) 2)) :: ((a 4), .inr (0, [.int (xm u 0 + nI 1), .ref u8.1, .int (nI ((stV sg sg.1).2.1.length))])) :: ((a 5), .inr (0, [.int (xm (xuA u 0 (xm u 0 + nI 1) u8 sg.2.1.length q8 u9) 1), .ref (xe (xuA u 0 (xm u 0 + nI 1) u8 sg.2.1.length q8 u9) 1), .int (nI sg.2.2.1.length)])) :: ((a 6), .inr (0, [.int (xm (xuA u 0 (xm u 0 + nI 1) u8 sg.2.1.length q8 u9) 2), .ref (xe (xuA u 0 (xm u 0 + nI 1) u8 sg.2.1.length q8 u9) 2), .int (nI sg.2.2.2.2.length)])) :: (XE cs (xuA u 0 (xm u 0 + nI 1) u8 sg.2.1.length q8 u9) ++ (u8.2.2.2 ++ Y2))) H := hW
  refine lv_aload_n hx hb dX2_store_32 rfl (lv_at hl 0 rfl) ?_
  refine z_get (ci := 3) (v := .ref (a 4)) (C := RX2) (T := TX2) (N := 8) hx hb hts in3 hown hK (hW.1 0 _ rfl) rfl 2 (by decide) fl20 (fun _ h9 => h9) rfl dX2_store_33 ?_
  refine z_csV (As := []) (rest := []) ⟨hx, hb, hml, hown, hts⟩ (c_Jx4a65c_size_8abf5 l D cs (a 4) u8.1 (stV sg sg.1).2.1.length (xm u 0 + nI 1)) (cwV 0 hts gX2_store_Jx4a65c_size_8abf5 rfl rfl rfl (by decide +kernel) ⟨Nat.le_of_ble_eq_true rfl, Nat.le_of_ble_eq_true rfl⟩) (hW.1 4 _ rfl) rfl (hW.1 4 _ rfl) hK rfl hl.1 rfl (Nat.le_of_ble_eq_true rfl) dX2_store_36 ⟨(by rw [hRc]; omega), (by rw [hRs]; omega)⟩ (fun r hq9 => ?_)
  have hq9 : r = nI ((stV sg sg.1).2.1.length) := hq9
  subst hq9
  refine lv_iconst (v := nI 1) hx hb dX2_store_39 (by decide) ?_
  refine lv_isub hx hb dX2_store_40 ?_
  refine zti (pk_sub (by omega)) (y := nI (((stV sg sg.1).2.1.length) - 1)) ?_
  have hW : Wd D S0 (XW cs a (xuA u 0 (xm u 0 + nI 1) u8 sg.2.1.length q8 u9) (stB0 (stV sg sg.1) []) ((u8.2.2.2 ++ [(u9, ba cs sg.1), (q8, (.inr (2, [.ref u9]) : va_E))]) ++ Y)) H := by
    rw [List.append_assoc, ← hY2]; exact hW
  have hF4 : XF cs ea (xuA u 0 (xm u 0 + nI 1) u8 sg.2.1.length q8 u9) (stB0 (stV sg sg.1) []) ((u8.2.2.2 ++ [(u9, ba cs sg.1), (q8, (.inr (2, [.ref u9]) : va_E))]) ++ Y) := by
    rw [List.append_assoc, ← hY2]; exact hF3.buf rowOk_nil (fun i hi => absurd hi (Nat.not_lt_zero i))
  refine W.widen (k := 3) (n := 801) (by omega) (by omega) ?_
  exact W.iret (v := nI (((stV sg sg.1).2.1.length) - 1)) hx hb hr (fun t ht hW9 => ⟨⟨_, (xuA u 0 (xm u 0 + nI 1) u8 sg.2.1.length q8 u9, u8.2.2.2 ++ [(u9, ba cs sg.1), (q8, (.inr (2, [.ref u9]) : va_E))]), rfl, ⟨congrArg nI (by rw [hlen]; rfl), hF4⟩, (by show Wd D S0 _ _; rw [ht]; exact hW)⟩, hS.F ht⟩) (fun q9 h9 => hS.2.2 q9 h9) dX2_store_41

