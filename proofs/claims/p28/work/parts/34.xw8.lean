/-! the least way -/
def lwI (u : XU) (wt : Nat → Int32) (f : Nat → Int32) : Nat → (Nat → Int32)
  | 0 => f
  | j + 1 => rbF (lwI u wt f j) (xP u 5 j) (xP u 6 j) (wt j)
def lwO (u : XU) (wt : Nat → Int32) (np v : Nat) : Nat → (Nat → Int32)
  | 0 => upd (fun _ => (-1)) v (nI 0)
  | i + 1 => lwI u wt (lwO u wt np v i) np

set_option maxHeartbeats 4000000 in
set_option maxRecDepth 100000 in
theorem c_X2_leastWay_s (l : Launch) (D : va_G) (cs : Nat → ClassId) (S0 : Nat) (ea mi : Nat) (sa : Nat → Nat) (Y : va_W) (a : Nat → Nat) (u : XU) (sg : St) (hF : XF cs ea u sg Y) (v9 w9 : Nat) (hv9 : v9 < sg.2.1.length) (hw9 : w9 < sg.2.1.length) : Met l yX2_leastWay wsX2_leastWay ({ frames := 5, cells := 0, slots := 0, locals := 108 }) (zE [.ref (a 0), .int (nI v9), .int (nI w9), .int (nI 0)] (fun H => Wd D S0 (XW cs a u sg Y) H) D cs S0 ea mi sa) (va_Qi (fun r (_ : Unit) => r = (lwO u (fun _ => nI 1) sg.2.2.1.length (flN sg.2.1 v9) sg.2.2.1.length) (flN sg.2.1 w9)) (fun _ t => Wd D S0 (XW cs a (xuF u 2 (lwO u (fun _ => nI 1) sg.2.2.1.length (flN sg.2.1 v9) sg.2.2.1.length)) sg Y) t.heap) (SA S0)) 0 0 (SA S0) := by
  refine Met.ofW (cc := cX2_leastWay) (maxL := 9) (ret := (some .int)) (by decide) rfl ?_
  intro p e s m args below meth c s₁ B hml hv
  obtain ⟨rfl, hW, hK, hE⟩ := hv
  have hx := B.exec
  have hb := B.bytes
  have hr := B.returns
  have hts := atoms_spec (ws := wsX2_leastWay) B.pre
  have hown : s.vm.findClass RX2 = some m.cls := findClass_of_methodNamed B.named
  have hlocks := B.notSynchronized
  have hRc : (headSpec wsX2_leastWay ({ frames := 5, cells := 0, slots := 0, locals := 108 })).room.cells = 0 := rfl
  have hRs : (headSpec wsX2_leastWay ({ frames := 5, cells := 0, slots := 0, locals := 108 })).room.slots = 0 := rfl
  have fl24 := hts (.fieldLink RX2 24 "DeltaUpdater" "made" "Ljava/util/ArrayList;") (by decide +kernel)
  have fl42 := hts (.fieldLink RX2 42 "DeltaUpdater" "reached" "[I") (by decide +kernel)
  have in3 : ∀ w ∈ u_ws RX2 TX2 8, w ∈ wsX2_leastWay := by decide +kernel
  have hW : Wd D S0 (XW cs a u sg Y) s.heap := hW
  have hS0 : S0 ≤ s.heap.size := hW.2.2
  have hS : va_S (SA S0) s.heap s.heap [] := va_S.rf
  have hl := lv_entry ([.ref (a 0), .int (nI v9), .int (nI w9), .int (nI 0)]) (n := 9) (Nat.le_of_ble_eq_true rfl)
  rw [lg_entry_eq]
  generalize (lg_sl ([.ref (a 0), .int (nI v9), .int (nI w9), .int (nI 0)]) ++ List.replicate (9 - (lg_sl ([.ref (a 0), .int (nI v9), .int (nI w9), .int (nI 0)])).length) Slot.unset).toArray = ls at hl ⊢
  have hl : lv_has ls 9 [(0, .ref (a 0)), (1, .int (nI v9)), (2, .int (nI w9)), (3, .int (nI 0))] := hl
  obtain ⟨fbf, fl0, fl1, fl2, frw, fpt, fin, fhi, hok⟩ := id hF
  obtain ⟨hx0, hbf, hbc, hls, hlm, hlh, hrw, hpt, hin, hhr, -⟩ := XH.of (Y := Y) hW hF
  have hbl := hok.1.1
  have hnv := hok.2.1.1
  have hnp := hok.2.2.1.1
  have hnh := hok.2.2.2.2.1
  have hok4 := hok.2.1.1
  have hok5 := hok.2.2.1.1
  have hfv := (FI_flN hok.2.1.2 hv9).1.1
  have hfw := (FI_flN hok.2.1.2 hw9).1.1
  refine lv_aload_n hx hb dX2_leastWay_0 rfl (lv_at hl 0 rfl) ?_
  refine lv_iload_n hx hb dX2_leastWay_1 rfl (lv_at hl 1 rfl) ?_
  refine z_ceV (As := [.int (nI v9)]) (rest := []) ⟨hx, hb, hml, hown, hts⟩ (c_X2_firstLike l D cs S0 ea mi sa a u sg v9 hv9) (cwV 1 hts gX2_leastWay_X2_firstLike rfl rfl rfl (by decide +kernel) ⟨Nat.le_of_ble_eq_true rfl, Nat.le_of_ble_eq_true rfl⟩) (hW.1 0 _ rfl) rfl (XH.of (Y := Y) hW hF) hK hE hS rfl hl.1 rfl (Nat.le_of_ble_eq_true rfl) dX2_leastWay_2 ⟨(by rw [hRc]; omega), (by rw [hRs]; omega)⟩ (fun r hq9 => ?_)
  have hq9 : r = nI (flN sg.2.1 v9) := hq9
  subst hq9
  refine lv_istore (lv' := [(4, .int (nI (flN sg.2.1 v9))), (0, .ref (a 0)), (1, .int (nI v9)), (2, .int (nI w9)), (3, .int (nI 0))]) hx hb dX2_leastWay_5 hl (by decide) rfl (fun ls hl => ?_)
  refine lv_aload_n hx hb dX2_leastWay_7 rfl (lv_at hl 1 rfl) ?_
  refine lv_iload_n hx hb dX2_leastWay_8 rfl (lv_at hl 3 rfl) ?_
  refine z_ceV (As := [.int (nI w9)]) (rest := []) ⟨hx, hb, hml, hown, hts⟩ (c_X2_firstLike l D cs S0 ea mi sa a u sg w9 hw9) (cwV 1 hts gX2_leastWay_X2_firstLike rfl rfl rfl (by decide +kernel) ⟨Nat.le_of_ble_eq_true rfl, Nat.le_of_ble_eq_true rfl⟩) (hW.1 0 _ rfl) rfl (XH.of (Y := Y) hW hF) hK hE hS rfl hl.1 rfl (Nat.le_of_ble_eq_true rfl) dX2_leastWay_9 ⟨(by rw [hRc]; omega), (by rw [hRs]; omega)⟩ (fun r hq9 => ?_)
  have hq9 : r = nI (flN sg.2.1 w9) := hq9
  subst hq9
  refine lv_istore (lv' := [(5, .int (nI (flN sg.2.1 w9))), (4, .int (nI (flN sg.2.1 v9))), (0, .ref (a 0)), (1, .int (nI v9)), (2, .int (nI w9)), (3, .int (nI 0))]) hx hb dX2_leastWay_12 hl (by decide) rfl (fun ls hl => ?_)
  refine lv_aload_n hx hb dX2_leastWay_14 rfl (lv_at hl 2 rfl) ?_
  refine z_get (ci := 3) (v := .ref (a 3)) (C := RX2) (T := TX2) (N := 8) hx hb hts in3 hown hK (hW.1 0 _ rfl) rfl 7 (by decide) fl42 (fun _ h9 => h9) rfl dX2_leastWay_15 ?_
  refine lv_iconst (v := (-1 : Int32)) hx hb dX2_leastWay_18 (by decide) ?_
  have hW : Wd D S0 (((a 0), .inr (3, [.ref (a 1), .int (nI sg.1.length), .ref (a 4), .ref (a 5), .ref (xe u 3), .ref (a 6), .ref (a 2), .ref (a 3)])) :: ((a 1), fa cs 400 (xF u 0)) :: ((a 2), fa cs 200 (xF u 1)) :: ((a 3), fa cs 12 (xF u 2)) :: ((a 4), .inr (0, [.int (xm u 0), .ref (xe u 0), .int (nI sg.2.1.length)])) :: ((a 5), .inr (0, [.int (xm u 1), .ref (xe u 1), .int (nI sg.2.2.1.length)])) :: ((a 6), .inr (0, [.int (xm u 2), .ref (xe u 2), .int (nI sg.2.2.2.2.length)])) :: (XE cs u ++ Y)) _ := hW
  have hW : Wd D S0 (((a 3), fa cs 12 (xF u 2)) :: ((a 0), .inr (3, [.ref (a 1), .int (nI sg.1.length), .ref (a 4), .ref (a 5), .ref (xe u 3), .ref (a 6), .ref (a 2), .ref (a 3)])) :: ((a 1), fa cs 400 (xF u 0)) :: ((a 2), fa cs 200 (xF u 1)) :: ((a 4), .inr (0, [.int (xm u 0), .ref (xe u 0), .int (nI sg.2.1.length)])) :: ((a 5), .inr (0, [.int (xm u 1), .ref (xe u 1), .int (nI sg.2.2.1.length)])) :: ((a 6), .inr (0, [.int (xm u 2), .ref (xe u 2), .int (nI sg.2.2.2.2.length)])) :: (XE cs u ++ Y)) _ := hW.perm (List.perm_middle (l₁ := ([((a 0), .inr (3, [.ref (a 1), .int (nI sg.1.length), .ref (a 4), .ref (a 5), .ref (xe u 3), .ref (a 6), .ref (a 2), .ref (a 3)])), ((a 1), fa cs 400 (xF u 0)), ((a 2), fa cs 200 (xF u 1))] : va_W)) (a := (((a 3), fa cs 12 (xF u 2)) : Nat × va_E)) (l₂ := ((((a 4), .inr (0, [.int (xm u 0), .ref (xe u 0), .int (nI sg.2.1.length)])) :: ((a 5), .inr (0, [.int (xm u 1), .ref (xe u 1), .int (nI sg.2.2.1.length)])) :: ((a 6), .inr (0, [.int (xm u 2), .ref (xe u 2), .int (nI sg.2.2.2.2.length)])) :: (XE cs u ++ Y)) : va_W)))
  refine z_cmV (va_runS (As := [.ref (a 3), .int (-1 : Int32)]) (rest := []) ⟨hx, hb, hml, hown, hts⟩ (c_J7_fill_53178 l D cs S0 (((a 0), .inr (3, [.ref (a 1), .int (nI sg.1.length), .ref (a 4), .ref (a 5), .ref (xe u 3), .ref (a 6), .ref (a 2), .ref (a 3)])) :: ((a 1), fa cs 400 (xF u 0)) :: ((a 2), fa cs 200 (xF u 1)) :: ((a 4), .inr (0, [.int (xm u 0), .ref (xe u 0), .int (nI sg.2.1.length)])) :: ((a 5), .inr (0, [.int (xm u 1), .ref (xe u 1), .int (nI sg.2.2.1.length)])) :: ((a 6), .inr (0, [.int (xm u 2), .ref (xe u 2), .int (nI sg.2.2.2.2.length)])) :: (XE cs u ++ Y)) (a 3) 12 (xF u 2) (-1) (by decide)) (va_cwS 2 hts gX2_leastWay_J7_fill_53178 rfl rfl rfl (by decide +kernel) ⟨Nat.le_of_ble_eq_true rfl, Nat.le_of_ble_eq_true rfl⟩) ⟨zP_blind, (zP_pre hW hK)⟩ rfl rfl hl.1 rfl (lv_room (Nat.le_of_ble_eq_true rfl)) dX2_leastWay_19 ⟨(by rw [hRc]; omega), (by rw [hRs]; omega)⟩) hS (fun u7 H locs hu hW hS => ?_)
  have hW : Wd D S0 (((a 0), .inr (3, [.ref (a 1), .int (nI sg.1.length), .ref (a 4), .ref (a 5), .ref (xe u 3), .ref (a 6), .ref (a 2), .ref (a 3)])) :: ((a 1), fa cs 400 (xF u 0)) :: ((a 2), fa cs 200 (xF u 1)) :: ((a 3), fa cs 12 (fun _ => (-1))) :: ((a 4), .inr (0, [.int (xm u 0), .ref (xe u 0), .int (nI sg.2.1.length)])) :: ((a 5), .inr (0, [.int (xm u 1), .ref (xe u 1), .int (nI sg.2.2.1.length)])) :: ((a 6), .inr (0, [.int (xm u 2), .ref (xe u 2), .int (nI sg.2.2.2.2.length)])) :: (XE cs u ++ Y)) H := hW.perm (List.perm_middle (l₁ := ([((a 0), .inr (3, [.ref (a 1), .int (nI sg.1.length), .ref (a 4), .ref (a 5), .ref (xe u 3), .ref (a 6), .ref (a 2), .ref (a 3)])), ((a 1), fa cs 400 (xF u 0)), ((a 2), fa cs 200 (xF u 1))] : va_W)) (a := (((a 3), fa cs 12 (fun _ => (-1))) : Nat × va_E)) (l₂ := ((((a 4), .inr (0, [.int (xm u 0), .ref (xe u 0), .int (nI sg.2.1.length)])) :: ((a 5), .inr (0, [.int (xm u 1), .ref (xe u 1), .int (nI sg.2.2.1.length)])) :: ((a 6), .inr (0, [.int (xm u 2), .ref (xe u 2), .int (nI sg.2.2.2.2.length)])) :: (XE cs u ++ Y)) : va_W))).symm
  refine lv_aload_n hx hb dX2_leastWay_22 rfl (lv_at hl 2 rfl) ?_
  refine z_get (ci := 3) (v := .ref (a 3)) (C := RX2) (T := TX2) (N := 8) hx hb hts in3 hown hK (hW.1 0 _ rfl) rfl 7 (by decide) fl42 (fun _ h9 => h9) rfl dX2_leastWay_23 ?_
  refine lv_iload hx hb dX2_leastWay_26 (lv_at hl 1 rfl) ?_
  refine lv_iconst (v := nI 0) hx hb dX2_leastWay_28 (by decide) ?_
  refine z_iast (k := (flN sg.2.1 v9)) (x := nI 0) (n := 12) (f := (fun _ => (-1))) hx hb hK hW hS 3 rfl (by omega) (by omega) dX2_leastWay_29 (fun H locs hW hS => ?_)
  have hW : Wd D S0 (((a 0), .inr (3, [.ref (a 1), .int (nI sg.1.length), .ref (a 4), .ref (a 5), .ref (xe u 3), .ref (a 6), .ref (a 2), .ref (a 3)])) :: ((a 1), fa cs 400 (xF u 0)) :: ((a 2), fa cs 200 (xF u 1)) :: ((a 3), fa cs 12 (upd (fun _ => (-1)) (flN sg.2.1 v9) (nI 0))) :: ((a 4), .inr (0, [.int (xm u 0), .ref (xe u 0), .int (nI sg.2.1.length)])) :: ((a 5), .inr (0, [.int (xm u 1), .ref (xe u 1), .int (nI sg.2.2.1.length)])) :: ((a 6), .inr (0, [.int (xm u 2), .ref (xe u 2), .int (nI sg.2.2.2.2.length)])) :: (XE cs u ++ Y)) H := hW
  refine lv_iconst (v := nI 0) hx hb dX2_leastWay_30 (by decide) ?_
  refine lv_istore (lv' := [(6, .int (nI 0)), (5, .int (nI (flN sg.2.1 w9))), (4, .int (nI (flN sg.2.1 v9))), (0, .ref (a 0)), (1, .int (nI v9)), (2, .int (nI w9)), (3, .int (nI 0))]) hx hb dX2_leastWay_31 hl (by decide) rfl (fun ls hl => ?_)
  refine z_loopM (σ := Nat) (fun q9 => sg.2.2.1.length - q9) (fun q9 ls H locs => lv_has ls 9 [(6, .int (nI q9)), (0, .ref (a 0)), (1, .int (nI v9)), (2, .int (nI w9)), (3, .int (nI 0)), (4, .int (nI (flN sg.2.1 v9))), (5, .int (nI (flN sg.2.1 w9)))] ∧ Wd D S0 (((a 0), .inr (3, [.ref (a 1), .int (nI sg.1.length), .ref (a 4), .ref (a 5), .ref (xe u 3), .ref (a 6), .ref (a 2), .ref (a 3)])) :: ((a 1), fa cs 400 (xF u 0)) :: ((a 2), fa cs 200 (xF u 1)) :: ((a 3), fa cs 12 (lwO u (fun _ => nI 1) sg.2.2.1.length (flN sg.2.1 v9) q9)) :: ((a 4), .inr (0, [.int (xm u 0), .ref (xe u 0), .int (nI sg.2.1.length)])) :: ((a 5), .inr (0, [.int (xm u 1), .ref (xe u 1), .int (nI sg.2.2.1.length)])) :: ((a 6), .inr (0, [.int (xm u 2), .ref (xe u 2), .int (nI sg.2.2.2.2.length)])) :: (XE cs u ++ Y)) H ∧ va_S (SA S0) s.heap H locs ∧ (q9 ≤ sg.2.2.1.length)) 0 ⟨lv_sub hl [0, 3, 4, 5, 6, 2, 1] rfl, hW, hS, (show 0 ≤ sg.2.2.1.length from Nat.zero_le _)⟩ (fun dd33 ih33 y9 ls H locs hd9 hI9 => ?_)
  obtain ⟨iq, rfl⟩ : ∃ z, z = y9 := ⟨_, rfl⟩
  have hd33 : sg.2.2.1.length - iq = dd33 := hd9
  have hI9 : lv_has ls 9 [(6, .int (nI iq)), (0, .ref (a 0)), (1, .int (nI v9)), (2, .int (nI w9)), (3, .int (nI 0)), (4, .int (nI (flN sg.2.1 v9))), (5, .int (nI (flN sg.2.1 w9)))] ∧ Wd D S0 (((a 0), .inr (3, [.ref (a 1), .int (nI sg.1.length), .ref (a 4), .ref (a 5), .ref (xe u 3), .ref (a 6), .ref (a 2), .ref (a 3)])) :: ((a 1), fa cs 400 (xF u 0)) :: ((a 2), fa cs 200 (xF u 1)) :: ((a 3), fa cs 12 (lwO u (fun _ => nI 1) sg.2.2.1.length (flN sg.2.1 v9) iq)) :: ((a 4), .inr (0, [.int (xm u 0), .ref (xe u 0), .int (nI sg.2.1.length)])) :: ((a 5), .inr (0, [.int (xm u 1), .ref (xe u 1), .int (nI sg.2.2.1.length)])) :: ((a 6), .inr (0, [.int (xm u 2), .ref (xe u 2), .int (nI sg.2.2.2.2.length)])) :: (XE cs u ++ Y)) H ∧ va_S (SA S0) s.heap H locs ∧ (iq ≤ sg.2.2.1.length) := hI9
  obtain ⟨hl, hW, hS, hi9⟩ := hI9
  refine lv_iload hx hb dX2_leastWay_33 (lv_at hl 0 rfl) ?_
  refine lv_aload_n hx hb dX2_leastWay_35 rfl (lv_at hl 1 rfl) ?_
  refine z_get (ci := 3) (v := .ref (a 5)) (C := RX2) (T := TX2) (N := 8) hx hb hts in3 hown hK (hW.1 0 _ rfl) rfl 3 (by decide) fl24 (fun _ h9 => h9) rfl dX2_leastWay_36 ?_
  refine z_csV (As := []) (rest := [.int (nI iq)]) ⟨hx, hb, hml, hown, hts⟩ (c_Jx4a65c_size_8abf5 l D cs (a 5) (xe u 1) sg.2.2.1.length (xm u 1)) (cwV 0 hts gX2_leastWay_Jx4a65c_size_8abf5 rfl rfl rfl (by decide +kernel) ⟨Nat.le_of_ble_eq_true rfl, Nat.le_of_ble_eq_true rfl⟩) (hW.1 5 _ rfl) rfl (hW.1 5 _ rfl) hK rfl hl.1 rfl (Nat.le_of_ble_eq_true rfl) dX2_leastWay_39 ⟨(by rw [hRc]; omega), (by rw [hRs]; omega)⟩ (fun r hq9 => ?_)
  have hq9 : r = nI sg.2.2.1.length := hq9
  subst hq9
  refine z_icmp_ge (tgt := 105) hx hb (by omega) (by omega) dX2_leastWay_42 (by decide) (fun hc42 => ?_) (fun hc42 => ?_)
  · skip
    have hc42 : sg.2.2.1.length ≤ iq := hc42
    have e9 : iq = sg.2.2.1.length := by omega
    rw [e9] at hl hW
    have hW : Wd D S0 (((a 0), .inr (3, [.ref (a 1), .int (nI sg.1.length), .ref (a 4), .ref (a 5), .ref (xe u 3), .ref (a 6), .ref (a 2), .ref (a 3)])) :: ((a 1), fa cs 400 (xF u 0)) :: ((a 2), fa cs 200 (xF u 1)) :: ((a 3), fa cs 12 (lwO u (fun _ => nI 1) sg.2.2.1.length (flN sg.2.1 v9) sg.2.2.1.length)) :: ((a 4), .inr (0, [.int (xm u 0), .ref (xe u 0), .int (nI sg.2.1.length)])) :: ((a 5), .inr (0, [.int (xm u 1), .ref (xe u 1), .int (nI sg.2.2.1.length)])) :: ((a 6), .inr (0, [.int (xm u 2), .ref (xe u 2), .int (nI sg.2.2.2.2.length)])) :: (XE cs u ++ Y)) H := hW
    refine lv_aload_n hx hb dX2_leastWay_105 rfl (lv_at hl 1 rfl) ?_
    refine z_get (ci := 3) (v := .ref (a 3)) (C := RX2) (T := TX2) (N := 8) hx hb hts in3 hown hK (hW.1 0 _ rfl) rfl 7 (by decide) fl42 (fun _ h9 => h9) rfl dX2_leastWay_106 ?_
    refine lv_iload hx hb dX2_leastWay_109 (lv_at hl 6 rfl) ?_
    refine z_iald (k := (flN sg.2.1 w9)) (f := (lwO u (fun _ => nI 1) sg.2.2.1.length (flN sg.2.1 v9) sg.2.2.1.length)) hx hb hK (hW.1 3 _ rfl) (by omega) (by omega) dX2_leastWay_111 ?_
    refine W.widen (k := 0) (n := 0) (by omega) (by omega) ?_
    exact W.iret (v := (lwO u (fun _ => nI 1) sg.2.2.1.length (flN sg.2.1 v9) sg.2.2.1.length) (flN sg.2.1 w9)) hx hb hr (fun t ht hW9 => ⟨⟨_, (), rfl, rfl, (by show Wd D S0 _ _; rw [ht]; exact hW)⟩, hS.F ht⟩) (fun q9 h9 => hS.2.2 q9 h9) dX2_leastWay_112
  · skip
    have hc42 : iq < sg.2.2.1.length := hc42
    refine lv_iconst (v := nI 0) hx hb dX2_leastWay_45 (by decide) ?_
    refine lv_istore (lv' := [(7, .int (nI 0)), (6, .int (nI iq)), (0, .ref (a 0)), (1, .int (nI v9)), (2, .int (nI w9)), (3, .int (nI 0)), (4, .int (nI (flN sg.2.1 v9))), (5, .int (nI (flN sg.2.1 w9)))]) hx hb dX2_leastWay_46 hl (by decide) rfl (fun ls hl => ?_)
    refine z_loopM (σ := Nat) (fun q9 => sg.2.2.1.length - q9) (fun q9 ls H locs => lv_has ls 9 [(7, .int (nI q9)), (6, .int (nI iq)), (0, .ref (a 0)), (1, .int (nI v9)), (2, .int (nI w9)), (3, .int (nI 0)), (4, .int (nI (flN sg.2.1 v9))), (5, .int (nI (flN sg.2.1 w9)))] ∧ Wd D S0 (((a 0), .inr (3, [.ref (a 1), .int (nI sg.1.length), .ref (a 4), .ref (a 5), .ref (xe u 3), .ref (a 6), .ref (a 2), .ref (a 3)])) :: ((a 1), fa cs 400 (xF u 0)) :: ((a 2), fa cs 200 (xF u 1)) :: ((a 3), fa cs 12 (lwI u (fun _ => nI 1) (lwO u (fun _ => nI 1) sg.2.2.1.length (flN sg.2.1 v9) iq) q9)) :: ((a 4), .inr (0, [.int (xm u 0), .ref (xe u 0), .int (nI sg.2.1.length)])) :: ((a 5), .inr (0, [.int (xm u 1), .ref (xe u 1), .int (nI sg.2.2.1.length)])) :: ((a 6), .inr (0, [.int (xm u 2), .ref (xe u 2), .int (nI sg.2.2.2.2.length)])) :: (XE cs u ++ Y)) H ∧ va_S (SA S0) s.heap H locs ∧ (q9 ≤ sg.2.2.1.length)) 0 ⟨lv_sub hl [0, 1, 2, 3, 4, 5, 6, 7] rfl, hW, hS, (show 0 ≤ sg.2.2.1.length from Nat.zero_le _)⟩ (fun dd48 ih48 y9 ls H locs hd9 hI9 => ?_)
    obtain ⟨jq, rfl⟩ : ∃ z, z = y9 := ⟨_, rfl⟩
    have hd48 : sg.2.2.1.length - jq = dd48 := hd9
    have hI9 : lv_has ls 9 [(7, .int (nI jq)), (6, .int (nI iq)), (0, .ref (a 0)), (1, .int (nI v9)), (2, .int (nI w9)), (3, .int (nI 0)), (4, .int (nI (flN sg.2.1 v9))), (5, .int (nI (flN sg.2.1 w9)))] ∧ Wd D S0 (((a 0), .inr (3, [.ref (a 1), .int (nI sg.1.length), .ref (a 4), .ref (a 5), .ref (xe u 3), .ref (a 6), .ref (a 2), .ref (a 3)])) :: ((a 1), fa cs 400 (xF u 0)) :: ((a 2), fa cs 200 (xF u 1)) :: ((a 3), fa cs 12 (lwI u (fun _ => nI 1) (lwO u (fun _ => nI 1) sg.2.2.1.length (flN sg.2.1 v9) iq) jq)) :: ((a 4), .inr (0, [.int (xm u 0), .ref (xe u 0), .int (nI sg.2.1.length)])) :: ((a 5), .inr (0, [.int (xm u 1), .ref (xe u 1), .int (nI sg.2.2.1.length)])) :: ((a 6), .inr (0, [.int (xm u 2), .ref (xe u 2), .int (nI sg.2.2.2.2.length)])) :: (XE cs u ++ Y)) H ∧ va_S (SA S0) s.heap H locs ∧ (jq ≤ sg.2.2.1.length) := hI9
    obtain ⟨hl, hW, hS, hj9⟩ := hI9
    refine lv_iload hx hb dX2_leastWay_48 (lv_at hl 0 rfl) ?_
    refine lv_aload_n hx hb dX2_leastWay_50 rfl (lv_at hl 2 rfl) ?_
    refine z_get (ci := 3) (v := .ref (a 5)) (C := RX2) (T := TX2) (N := 8) hx hb hts in3 hown hK (hW.1 0 _ rfl) rfl 3 (by decide) fl24 (fun _ h9 => h9) rfl dX2_leastWay_51 ?_
    refine z_csV (As := []) (rest := [.int (nI jq)]) ⟨hx, hb, hml, hown, hts⟩ (c_Jx4a65c_size_8abf5 l D cs (a 5) (xe u 1) sg.2.2.1.length (xm u 1)) (cwV 0 hts gX2_leastWay_Jx4a65c_size_8abf5 rfl rfl rfl (by decide +kernel) ⟨Nat.le_of_ble_eq_true rfl, Nat.le_of_ble_eq_true rfl⟩) (hW.1 5 _ rfl) rfl (hW.1 5 _ rfl) hK rfl hl.1 rfl (Nat.le_of_ble_eq_true rfl) dX2_leastWay_54 ⟨(by rw [hRc]; omega), (by rw [hRs]; omega)⟩ (fun r hq9 => ?_)
    have hq9 : r = nI sg.2.2.1.length := hq9
    subst hq9
    refine z_icmp_ge (tgt := 99) hx hb (by omega) (by omega) dX2_leastWay_57 (by decide) (fun hc57 => ?_) (fun hc57 => ?_)
    · skip
      have hc57 : sg.2.2.1.length ≤ jq := hc57
      have e9 : jq = sg.2.2.1.length := by omega
      rw [e9] at hl hW
      have hW : Wd D S0 (((a 0), .inr (3, [.ref (a 1), .int (nI sg.1.length), .ref (a 4), .ref (a 5), .ref (xe u 3), .ref (a 6), .ref (a 2), .ref (a 3)])) :: ((a 1), fa cs 400 (xF u 0)) :: ((a 2), fa cs 200 (xF u 1)) :: ((a 3), fa cs 12 (lwO u (fun _ => nI 1) sg.2.2.1.length (flN sg.2.1 v9) (iq + 1))) :: ((a 4), .inr (0, [.int (xm u 0), .ref (xe u 0), .int (nI sg.2.1.length)])) :: ((a 5), .inr (0, [.int (xm u 1), .ref (xe u 1), .int (nI sg.2.2.1.length)])) :: ((a 6), .inr (0, [.int (xm u 2), .ref (xe u 2), .int (nI sg.2.2.2.2.length)])) :: (XE cs u ++ Y)) H := hW
      refine lv_iinc (v := nI (iq + 1)) (lv' := [(6, .int (nI (iq + 1))), (7, .int (nI sg.2.2.1.length)), (0, .ref (a 0)), (1, .int (nI v9)), (2, .int (nI w9)), (3, .int (nI 0)), (4, .int (nI (flN sg.2.1 v9))), (5, .int (nI (flN sg.2.1 w9)))]) hx hb dX2_leastWay_99 hl (k := 1) rfl (z_inc _) (by decide) rfl (fun ls hl => ?_)
      refine lv_goto (tgt := 33) hx hb dX2_leastWay_102 (by decide) ?_
      exact ih33 (iq + 1) ls H locs (show sg.2.2.1.length - (iq + 1) < dd33 by omega) ⟨lv_sub hl [0, 2, 3, 4, 5, 6, 7] rfl, hW, hS, (show (iq + 1) ≤ sg.2.2.1.length from by omega)⟩
    · skip
      have hc57 : jq < sg.2.2.1.length := hc57
      refine lv_aload_n hx hb dX2_leastWay_60 rfl (lv_at hl 2 rfl) ?_
      refine z_get (ci := 3) (v := .ref (a 5)) (C := RX2) (T := TX2) (N := 8) hx hb hts in3 hown hK (hW.1 0 _ rfl) rfl 3 (by decide) fl24 (fun _ h9 => h9) rfl dX2_leastWay_61 ?_
      refine lv_iload hx hb dX2_leastWay_64 (lv_at hl 0 rfl) ?_
      obtain ⟨hx0, hbf, hbc, hls, hlm, hlh, hrw, hpt, hin, hhr, -⟩ := XH.of (D := D) (cs := cs) (a := a) (σ := sg) (Y := Y) (u := xuF u 2 (lwI u (fun _ => nI 1) (lwO u (fun _ => nI 1) sg.2.2.1.length (flN sg.2.1 v9) iq) jq)) hW hF.rch
      refine z_csRV (As := [.int (nI jq)]) (rest := []) ⟨hx, hb, hml, hown, hts⟩ (c_Jx4a65c_get_915e3 l D cs (a 5) (xe u 1) sg.2.2.1.length (xc u 1) ((xP u 0) jq) jq (xm u 1) (xg u 1) (by omega) (hlm.2.1 (by omega)).2 (by have := hlm.2.2.1; omega) (hlm.2.2.2 jq (by omega))) (cwV 1 hts gX2_leastWay_Jx4a65c_get_915e3 rfl rfl rfl (by decide +kernel) ⟨Nat.le_of_ble_eq_true rfl, Nat.le_of_ble_eq_true rfl⟩) (hW.1 5 _ rfl) rfl ⟨hlm.1, (hlm.2.1 (by omega)).1⟩ hK rfl hl.1 rfl (Nat.le_of_ble_eq_true rfl) dX2_leastWay_66 ⟨(by rw [hRc]; omega), (by rw [hRs]; omega)⟩ (fun r hq9 => ?_)
      have hq9 : r = (xP u 0 jq) := hq9
      subst hq9
      refine va_castY (C := RX0) (nm := RX0) hx hb hown (hts (.classLink RX2 111 RX0) (by decide +kernel)) (hE.2.2.2.2.1 (RX0, RX0) (by decide)) (z_recv hK (hpt jq (by omega)).1.1 rfl) dX2_leastWay_69 ?_
      refine lv_astore (lv' := [(8, .ref (xP u 0 jq)), (7, .int (nI jq)), (6, .int (nI iq)), (0, .ref (a 0)), (1, .int (nI v9)), (2, .int (nI w9)), (3, .int (nI 0)), (4, .int (nI (flN sg.2.1 v9))), (5, .int (nI (flN sg.2.1 w9)))]) hx hb dX2_leastWay_72 hl (by decide) rfl (fun ls hl => ?_)
      refine lv_aload_n hx hb dX2_leastWay_74 rfl (lv_at hl 3 rfl) ?_
      refine lv_aload hx hb dX2_leastWay_75 (lv_at hl 0 rfl) ?_
      refine lv_iload_n hx hb dX2_leastWay_77 rfl (lv_at hl 6 rfl) ?_
      refine lv_if_eq (tgt := 89) hx hb dX2_leastWay_78 (by decide) (fun _ => ?_) (fun h9 => absurd (by decide) h9)
      refine lv_iconst (v := nI 1) hx hb dX2_leastWay_89 (by decide) ?_
      refine z_cmV (va_runV (As := [.ref (xP u 0 jq), .int (nI 1)]) (rest := []) ⟨hx, hb, hml, hown, hts⟩ (c_X2_reachBy l D cs S0 ea mi sa Y a (xuF u 2 (lwI u (fun _ => nI 1) (lwO u (fun _ => nI 1) sg.2.2.1.length (flN sg.2.1 v9) iq) jq)) sg hF.rch jq (by omega) (nI 1)) (cwV 2 hts gX2_leastWay_X2_reachBy rfl rfl rfl (by decide +kernel) ⟨Nat.le_of_ble_eq_true rfl, Nat.le_of_ble_eq_true rfl⟩) ⟨zE_blind, z_recv hK (hW.1 0 _ rfl) rfl, (zE_pre hW hK hE hS)⟩ rfl rfl hl.1 rfl (lv_room (Nat.le_of_ble_eq_true rfl)) dX2_leastWay_90 ⟨(by rw [hRc]; omega), (by rw [hRs]; omega)⟩) hS (fun u7 H locs hu hW hS => ?_)
      have hW : Wd D S0 (((a 0), .inr (3, [.ref (a 1), .int (nI sg.1.length), .ref (a 4), .ref (a 5), .ref (xe u 3), .ref (a 6), .ref (a 2), .ref (a 3)])) :: ((a 1), fa cs 400 (xF u 0)) :: ((a 2), fa cs 200 (xF u 1)) :: ((a 3), fa cs 12 (lwI u (fun _ => nI 1) (lwO u (fun _ => nI 1) sg.2.2.1.length (flN sg.2.1 v9) iq) (jq + 1))) :: ((a 4), .inr (0, [.int (xm u 0), .ref (xe u 0), .int (nI sg.2.1.length)])) :: ((a 5), .inr (0, [.int (xm u 1), .ref (xe u 1), .int (nI sg.2.2.1.length)])) :: ((a 6), .inr (0, [.int (xm u 2), .ref (xe u 2), .int (nI sg.2.2.2.2.length)])) :: (XE cs u ++ Y)) H := hW
      refine lv_iinc (v := nI (jq + 1)) (lv' := [(7, .int (nI (jq + 1))), (8, .ref (xP u 0 jq)), (6, .int (nI iq)), (0, .ref (a 0)), (1, .int (nI v9)), (2, .int (nI w9)), (3, .int (nI 0)), (4, .int (nI (flN sg.2.1 v9))), (5, .int (nI (flN sg.2.1 w9)))]) hx hb dX2_leastWay_93 hl (k := 1) rfl (z_inc _) (by decide) rfl (fun ls hl => ?_)
      refine lv_goto (tgt := 48) hx hb dX2_leastWay_96 (by decide) ?_
      exact ih48 (jq + 1) ls H locs (show sg.2.2.1.length - (jq + 1) < dd48 by omega) ⟨lv_sub hl [0, 2, 3, 4, 5, 6, 7, 8] rfl, hW, hS, (show (jq + 1) ≤ sg.2.2.1.length from by omega)⟩

set_option maxHeartbeats 4000000 in
set_option maxRecDepth 100000 in
theorem c_X2_leastWay_c (l : Launch) (D : va_G) (cs : Nat → ClassId) (S0 : Nat) (ea mi : Nat) (sa : Nat → Nat) (Y : va_W) (a : Nat → Nat) (u : XU) (sg : St) (hF : XF cs ea u sg Y) (v9 w9 : Nat) (hv9 : v9 < sg.2.1.length) (hw9 : w9 < sg.2.1.length) : Met l yX2_leastWay wsX2_leastWay ({ frames := 5, cells := 0, slots := 0, locals := 108 }) (zE [.ref (a 0), .int (nI v9), .int (nI w9), .int (nI 1)] (fun H => Wd D S0 (XW cs a u sg Y) H) D cs S0 ea mi sa) (va_Qi (fun r (_ : Unit) => r = (lwO u (fun j => nI (costN (rf (psN sg.2.2.1 j).2.2) (psN sg.2.2.1 j).2.1.length)) sg.2.2.1.length (flN sg.2.1 v9) sg.2.2.1.length) (flN sg.2.1 w9)) (fun _ t => Wd D S0 (XW cs a (xuF u 2 (lwO u (fun j => nI (costN (rf (psN sg.2.2.1 j).2.2) (psN sg.2.2.1 j).2.1.length)) sg.2.2.1.length (flN sg.2.1 v9) sg.2.2.1.length)) sg Y) t.heap) (SA S0)) 0 0 (SA S0) := by
  refine Met.ofW (cc := cX2_leastWay) (maxL := 9) (ret := (some .int)) (by decide) rfl ?_
  intro p e s m args below meth c s₁ B hml hv
  obtain ⟨rfl, hW, hK, hE⟩ := hv
  have hx := B.exec
  have hb := B.bytes
  have hr := B.returns
  have hts := atoms_spec (ws := wsX2_leastWay) B.pre
  have hown : s.vm.findClass RX2 = some m.cls := findClass_of_methodNamed B.named
  have hlocks := B.notSynchronized
  have hRc : (headSpec wsX2_leastWay ({ frames := 5, cells := 0, slots := 0, locals := 108 })).room.cells = 0 := rfl
  have hRs : (headSpec wsX2_leastWay ({ frames := 5, cells := 0, slots := 0, locals := 108 })).room.slots = 0 := rfl
  have fl152 := hts (.fieldLink RX2 152 "DeltaUpdater$Patch" "price" "I") (by decide +kernel)
  have fl24 := hts (.fieldLink RX2 24 "DeltaUpdater" "made" "Ljava/util/ArrayList;") (by decide +kernel)
  have fl42 := hts (.fieldLink RX2 42 "DeltaUpdater" "reached" "[I") (by decide +kernel)
  have in1 : ∀ w ∈ u_ws RX0 TX0 7, w ∈ wsX2_leastWay := by decide +kernel
  have in3 : ∀ w ∈ u_ws RX2 TX2 8, w ∈ wsX2_leastWay := by decide +kernel
  have hW : Wd D S0 (XW cs a u sg Y) s.heap := hW
  have hS0 : S0 ≤ s.heap.size := hW.2.2
  have hS : va_S (SA S0) s.heap s.heap [] := va_S.rf
  have hl := lv_entry ([.ref (a 0), .int (nI v9), .int (nI w9), .int (nI 1)]) (n := 9) (Nat.le_of_ble_eq_true rfl)
  rw [lg_entry_eq]
  generalize (lg_sl ([.ref (a 0), .int (nI v9), .int (nI w9), .int (nI 1)]) ++ List.replicate (9 - (lg_sl ([.ref (a 0), .int (nI v9), .int (nI w9), .int (nI 1)])).length) Slot.unset).toArray = ls at hl ⊢
  have hl : lv_has ls 9 [(0, .ref (a 0)), (1, .int (nI v9)), (2, .int (nI w9)), (3, .int (nI 1))] := hl
  obtain ⟨fbf, fl0, fl1, fl2, frw, fpt, fin, fhi, hok⟩ := id hF
  obtain ⟨hx0, hbf, hbc, hls, hlm, hlh, hrw, hpt, hin, hhr, -⟩ := XH.of (Y := Y) hW hF
  have hbl := hok.1.1
  have hnv := hok.2.1.1
  have hnp := hok.2.2.1.1
  have hnh := hok.2.2.2.2.1
  have hok4 := hok.2.1.1
  have hok5 := hok.2.2.1.1
  have hfv := (FI_flN hok.2.1.2 hv9).1.1
  have hfw := (FI_flN hok.2.1.2 hw9).1.1
  refine lv_aload_n hx hb dX2_leastWay_0 rfl (lv_at hl 0 rfl) ?_
  refine lv_iload_n hx hb dX2_leastWay_1 rfl (lv_at hl 1 rfl) ?_
  refine z_ceV (As := [.int (nI v9)]) (rest := []) ⟨hx, hb, hml, hown, hts⟩ (c_X2_firstLike l D cs S0 ea mi sa a u sg v9 hv9) (cwV 1 hts gX2_leastWay_X2_firstLike rfl rfl rfl (by decide +kernel) ⟨Nat.le_of_ble_eq_true rfl, Nat.le_of_ble_eq_true rfl⟩) (hW.1 0 _ rfl) rfl (XH.of (Y := Y) hW hF) hK hE hS rfl hl.1 rfl (Nat.le_of_ble_eq_true rfl) dX2_leastWay_2 ⟨(by rw [hRc]; omega), (by rw [hRs]; omega)⟩ (fun r hq9 => ?_)
  have hq9 : r = nI (flN sg.2.1 v9) := hq9
  subst hq9
  refine lv_istore (lv' := [(4, .int (nI (flN sg.2.1 v9))), (0, .ref (a 0)), (1, .int (nI v9)), (2, .int (nI w9)), (3, .int (nI 1))]) hx hb dX2_leastWay_5 hl (by decide) rfl (fun ls hl => ?_)
  refine lv_aload_n hx hb dX2_leastWay_7 rfl (lv_at hl 1 rfl) ?_
  refine lv_iload_n hx hb dX2_leastWay_8 rfl (lv_at hl 3 rfl) ?_
  refine z_ceV (As := [.int (nI w9)]) (rest := []) ⟨hx, hb, hml, hown, hts⟩ (c_X2_firstLike l D cs S0 ea mi sa a u sg w9 hw9) (cwV 1 hts gX2_leastWay_X2_firstLike rfl rfl rfl (by decide +kernel) ⟨Nat.le_of_ble_eq_true rfl, Nat.le_of_ble_eq_true rfl⟩) (hW.1 0 _ rfl) rfl (XH.of (Y := Y) hW hF) hK hE hS rfl hl.1 rfl (Nat.le_of_ble_eq_true rfl) dX2_leastWay_9 ⟨(by rw [hRc]; omega), (by rw [hRs]; omega)⟩ (fun r hq9 => ?_)
  have hq9 : r = nI (flN sg.2.1 w9) := hq9
  subst hq9
  refine lv_istore (lv' := [(5, .int (nI (flN sg.2.1 w9))), (4, .int (nI (flN sg.2.1 v9))), (0, .ref (a 0)), (1, .int (nI v9)), (2, .int (nI w9)), (3, .int (nI 1))]) hx hb dX2_leastWay_12 hl (by decide) rfl (fun ls hl => ?_)
  refine lv_aload_n hx hb dX2_leastWay_14 rfl (lv_at hl 2 rfl) ?_
  refine z_get (ci := 3) (v := .ref (a 3)) (C := RX2) (T := TX2) (N := 8) hx hb hts in3 hown hK (hW.1 0 _ rfl) rfl 7 (by decide) fl42 (fun _ h9 => h9) rfl dX2_leastWay_15 ?_
  refine lv_iconst (v := (-1 : Int32)) hx hb dX2_leastWay_18 (by decide) ?_
  have hW : Wd D S0 (((a 0), .inr (3, [.ref (a 1), .int (nI sg.1.length), .ref (a 4), .ref (a 5), .ref (xe u 3), .ref (a 6), .ref (a 2), .ref (a 3)])) :: ((a 1), fa cs 400 (xF u 0)) :: ((a 2), fa cs 200 (xF u 1)) :: ((a 3), fa cs 12 (xF u 2)) :: ((a 4), .inr (0, [.int (xm u 0), .ref (xe u 0), .int (nI sg.2.1.length)])) :: ((a 5), .inr (0, [.int (xm u 1), .ref (xe u 1), .int (nI sg.2.2.1.length)])) :: ((a 6), .inr (0, [.int (xm u 2), .ref (xe u 2), .int (nI sg.2.2.2.2.length)])) :: (XE cs u ++ Y)) _ := hW
  have hW : Wd D S0 (((a 3), fa cs 12 (xF u 2)) :: ((a 0), .inr (3, [.ref (a 1), .int (nI sg.1.length), .ref (a 4), .ref (a 5), .ref (xe u 3), .ref (a 6), .ref (a 2), .ref (a 3)])) :: ((a 1), fa cs 400 (xF u 0)) :: ((a 2), fa cs 200 (xF u 1)) :: ((a 4), .inr (0, [.int (xm u 0), .ref (xe u 0), .int (nI sg.2.1.length)])) :: ((a 5), .inr (0, [.int (xm u 1), .ref (xe u 1), .int (nI sg.2.2.1.length)])) :: ((a 6), .inr (0, [.int (xm u 2), .ref (xe u 2), .int (nI sg.2.2.2.2.length)])) :: (XE cs u ++ Y)) _ := hW.perm (List.perm_middle (l₁ := ([((a 0), .inr (3, [.ref (a 1), .int (nI sg.1.length), .ref (a 4), .ref (a 5), .ref (xe u 3), .ref (a 6), .ref (a 2), .ref (a 3)])), ((a 1), fa cs 400 (xF u 0)), ((a 2), fa cs 200 (xF u 1))] : va_W)) (a := (((a 3), fa cs 12 (xF u 2)) : Nat × va_E)) (l₂ := ((((a 4), .inr (0, [.int (xm u 0), .ref (xe u 0), .int (nI sg.2.1.length)])) :: ((a 5), .inr (0, [.int (xm u 1), .ref (xe u 1), .int (nI sg.2.2.1.length)])) :: ((a 6), .inr (0, [.int (xm u 2), .ref (xe u 2), .int (nI sg.2.2.2.2.length)])) :: (XE cs u ++ Y)) : va_W)))
  refine z_cmV (va_runS (As := [.ref (a 3), .int (-1 : Int32)]) (rest := []) ⟨hx, hb, hml, hown, hts⟩ (c_J7_fill_53178 l D cs S0 (((a 0), .inr (3, [.ref (a 1), .int (nI sg.1.length), .ref (a 4), .ref (a 5), .ref (xe u 3), .ref (a 6), .ref (a 2), .ref (a 3)])) :: ((a 1), fa cs 400 (xF u 0)) :: ((a 2), fa cs 200 (xF u 1)) :: ((a 4), .inr (0, [.int (xm u 0), .ref (xe u 0), .int (nI sg.2.1.length)])) :: ((a 5), .inr (0, [.int (xm u 1), .ref (xe u 1), .int (nI sg.2.2.1.length)])) :: ((a 6), .inr (0, [.int (xm u 2), .ref (xe u 2), .int (nI sg.2.2.2.2.length)])) :: (XE cs u ++ Y)) (a 3) 12 (xF u 2) (-1) (by decide)) (va_cwS 2 hts gX2_leastWay_J7_fill_53178 rfl rfl rfl (by decide +kernel) ⟨Nat.le_of_ble_eq_true rfl, Nat.le_of_ble_eq_true rfl⟩) ⟨zP_blind, (zP_pre hW hK)⟩ rfl rfl hl.1 rfl (lv_room (Nat.le_of_ble_eq_true rfl)) dX2_leastWay_19 ⟨(by rw [hRc]; omega), (by rw [hRs]; omega)⟩) hS (fun u7 H locs hu hW hS => ?_)
  have hW : Wd D S0 (((a 0), .inr (3, [.ref (a 1), .int (nI sg.1.length), .ref (a 4), .ref (a 5), .ref (xe u 3), .ref (a 6), .ref (a 2), .ref (a 3)])) :: ((a 1), fa cs 400 (xF u 0)) :: ((a 2), fa cs 200 (xF u 1)) :: ((a 3), fa cs 12 (fun _ => (-1))) :: ((a 4), .inr (0, [.int (xm u 0), .ref (xe u 0), .int (nI sg.2.1.length)])) :: ((a 5), .inr (0, [.int (xm u 1), .ref (xe u 1), .int (nI sg.2.2.1.length)])) :: ((a 6), .inr (0, [.int (xm u 2), .ref (xe u 2), .int (nI sg.2.2.2.2.length)])) :: (XE cs u ++ Y)) H := hW.perm (List.perm_middle (l₁ := ([((a 0), .inr (3, [.ref (a 1), .int (nI sg.1.length), .ref (a 4), .ref (a 5), .ref (xe u 3), .ref (a 6), .ref (a 2), .ref (a 3)])), ((a 1), fa cs 400 (xF u 0)), ((a 2), fa cs 200 (xF u 1))] : va_W)) (a := (((a 3), fa cs 12 (fun _ => (-1))) : Nat × va_E)) (l₂ := ((((a 4), .inr (0, [.int (xm u 0), .ref (xe u 0), .int (nI sg.2.1.length)])) :: ((a 5), .inr (0, [.int (xm u 1), .ref (xe u 1), .int (nI sg.2.2.1.length)])) :: ((a 6), .inr (0, [.int (xm u 2), .ref (xe u 2), .int (nI sg.2.2.2.2.length)])) :: (XE cs u ++ Y)) : va_W))).symm
  refine lv_aload_n hx hb dX2_leastWay_22 rfl (lv_at hl 2 rfl) ?_
  refine z_get (ci := 3) (v := .ref (a 3)) (C := RX2) (T := TX2) (N := 8) hx hb hts in3 hown hK (hW.1 0 _ rfl) rfl 7 (by decide) fl42 (fun _ h9 => h9) rfl dX2_leastWay_23 ?_
  refine lv_iload hx hb dX2_leastWay_26 (lv_at hl 1 rfl) ?_
  refine lv_iconst (v := nI 0) hx hb dX2_leastWay_28 (by decide) ?_
  refine z_iast (k := (flN sg.2.1 v9)) (x := nI 0) (n := 12) (f := (fun _ => (-1))) hx hb hK hW hS 3 rfl (by omega) (by omega) dX2_leastWay_29 (fun H locs hW hS => ?_)
  have hW : Wd D S0 (((a 0), .inr (3, [.ref (a 1), .int (nI sg.1.length), .ref (a 4), .ref (a 5), .ref (xe u 3), .ref (a 6), .ref (a 2), .ref (a 3)])) :: ((a 1), fa cs 400 (xF u 0)) :: ((a 2), fa cs 200 (xF u 1)) :: ((a 3), fa cs 12 (upd (fun _ => (-1)) (flN sg.2.1 v9) (nI 0))) :: ((a 4), .inr (0, [.int (xm u 0), .ref (xe u 0), .int (nI sg.2.1.length)])) :: ((a 5), .inr (0, [.int (xm u 1), .ref (xe u 1), .int (nI sg.2.2.1.length)])) :: ((a 6), .inr (0, [.int (xm u 2), .ref (xe u 2), .int (nI sg.2.2.2.2.length)])) :: (XE cs u ++ Y)) H := hW
  refine lv_iconst (v := nI 0) hx hb dX2_leastWay_30 (by decide) ?_
  refine lv_istore (lv' := [(6, .int (nI 0)), (5, .int (nI (flN sg.2.1 w9))), (4, .int (nI (flN sg.2.1 v9))), (0, .ref (a 0)), (1, .int (nI v9)), (2, .int (nI w9)), (3, .int (nI 1))]) hx hb dX2_leastWay_31 hl (by decide) rfl (fun ls hl => ?_)
  refine z_loopM (σ := Nat) (fun q9 => sg.2.2.1.length - q9) (fun q9 ls H locs => lv_has ls 9 [(6, .int (nI q9)), (0, .ref (a 0)), (1, .int (nI v9)), (2, .int (nI w9)), (3, .int (nI 1)), (4, .int (nI (flN sg.2.1 v9))), (5, .int (nI (flN sg.2.1 w9)))] ∧ Wd D S0 (((a 0), .inr (3, [.ref (a 1), .int (nI sg.1.length), .ref (a 4), .ref (a 5), .ref (xe u 3), .ref (a 6), .ref (a 2), .ref (a 3)])) :: ((a 1), fa cs 400 (xF u 0)) :: ((a 2), fa cs 200 (xF u 1)) :: ((a 3), fa cs 12 (lwO u (fun j => nI (costN (rf (psN sg.2.2.1 j).2.2) (psN sg.2.2.1 j).2.1.length)) sg.2.2.1.length (flN sg.2.1 v9) q9)) :: ((a 4), .inr (0, [.int (xm u 0), .ref (xe u 0), .int (nI sg.2.1.length)])) :: ((a 5), .inr (0, [.int (xm u 1), .ref (xe u 1), .int (nI sg.2.2.1.length)])) :: ((a 6), .inr (0, [.int (xm u 2), .ref (xe u 2), .int (nI sg.2.2.2.2.length)])) :: (XE cs u ++ Y)) H ∧ va_S (SA S0) s.heap H locs ∧ (q9 ≤ sg.2.2.1.length)) 0 ⟨lv_sub hl [0, 3, 4, 5, 6, 2, 1] rfl, hW, hS, (show 0 ≤ sg.2.2.1.length from Nat.zero_le _)⟩ (fun dd33 ih33 y9 ls H locs hd9 hI9 => ?_)
  obtain ⟨iq, rfl⟩ : ∃ z, z = y9 := ⟨_, rfl⟩
  have hd33 : sg.2.2.1.length - iq = dd33 := hd9
  have hI9 : lv_has ls 9 [(6, .int (nI iq)), (0, .ref (a 0)), (1, .int (nI v9)), (2, .int (nI w9)), (3, .int (nI 1)), (4, .int (nI (flN sg.2.1 v9))), (5, .int (nI (flN sg.2.1 w9)))] ∧ Wd D S0 (((a 0), .inr (3, [.ref (a 1), .int (nI sg.1.length), .ref (a 4), .ref (a 5), .ref (xe u 3), .ref (a 6), .ref (a 2), .ref (a 3)])) :: ((a 1), fa cs 400 (xF u 0)) :: ((a 2), fa cs 200 (xF u 1)) :: ((a 3), fa cs 12 (lwO u (fun j => nI (costN (rf (psN sg.2.2.1 j).2.2) (psN sg.2.2.1 j).2.1.length)) sg.2.2.1.length (flN sg.2.1 v9) iq)) :: ((a 4), .inr (0, [.int (xm u 0), .ref (xe u 0), .int (nI sg.2.1.length)])) :: ((a 5), .inr (0, [.int (xm u 1), .ref (xe u 1), .int (nI sg.2.2.1.length)])) :: ((a 6), .inr (0, [.int (xm u 2), .ref (xe u 2), .int (nI sg.2.2.2.2.length)])) :: (XE cs u ++ Y)) H ∧ va_S (SA S0) s.heap H locs ∧ (iq ≤ sg.2.2.1.length) := hI9
  obtain ⟨hl, hW, hS, hi9⟩ := hI9
  refine lv_iload hx hb dX2_leastWay_33 (lv_at hl 0 rfl) ?_
  refine lv_aload_n hx hb dX2_leastWay_35 rfl (lv_at hl 1 rfl) ?_
  refine z_get (ci := 3) (v := .ref (a 5)) (C := RX2) (T := TX2) (N := 8) hx hb hts in3 hown hK (hW.1 0 _ rfl) rfl 3 (by decide) fl24 (fun _ h9 => h9) rfl dX2_leastWay_36 ?_
  refine z_csV (As := []) (rest := [.int (nI iq)]) ⟨hx, hb, hml, hown, hts⟩ (c_Jx4a65c_size_8abf5 l D cs (a 5) (xe u 1) sg.2.2.1.length (xm u 1)) (cwV 0 hts gX2_leastWay_Jx4a65c_size_8abf5 rfl rfl rfl (by decide +kernel) ⟨Nat.le_of_ble_eq_true rfl, Nat.le_of_ble_eq_true rfl⟩) (hW.1 5 _ rfl) rfl (hW.1 5 _ rfl) hK rfl hl.1 rfl (Nat.le_of_ble_eq_true rfl) dX2_leastWay_39 ⟨(by rw [hRc]; omega), (by rw [hRs]; omega)⟩ (fun r hq9 => ?_)
  have hq9 : r = nI sg.2.2.1.length := hq9
  subst hq9
  refine z_icmp_ge (tgt := 105) hx hb (by omega) (by omega) dX2_leastWay_42 (by decide) (fun hc42 => ?_) (fun hc42 => ?_)
  · skip
    have hc42 : sg.2.2.1.length ≤ iq := hc42
    have e9 : iq = sg.2.2.1.length := by omega
    rw [e9] at hl hW
    have hW : Wd D S0 (((a 0), .inr (3, [.ref (a 1), .int (nI sg.1.length), .ref (a 4), .ref (a 5), .ref (xe u 3), .ref (a 6), .ref (a 2), .ref (a 3)])) :: ((a 1), fa cs 400 (xF u 0)) :: ((a 2), fa cs 200 (xF u 1)) :: ((a 3), fa cs 12 (lwO u (fun j => nI (costN (rf (psN sg.2.2.1 j).2.2) (psN sg.2.2.1 j).2.1.length)) sg.2.2.1.length (flN sg.2.1 v9) sg.2.2.1.length)) :: ((a 4), .inr (0, [.int (xm u 0), .ref (xe u 0), .int (nI sg.2.1.length)])) :: ((a 5), .inr (0, [.int (xm u 1), .ref (xe u 1), .int (nI sg.2.2.1.length)])) :: ((a 6), .inr (0, [.int (xm u 2), .ref (xe u 2), .int (nI sg.2.2.2.2.length)])) :: (XE cs u ++ Y)) H := hW
    refine lv_aload_n hx hb dX2_leastWay_105 rfl (lv_at hl 1 rfl) ?_
    refine z_get (ci := 3) (v := .ref (a 3)) (C := RX2) (T := TX2) (N := 8) hx hb hts in3 hown hK (hW.1 0 _ rfl) rfl 7 (by decide) fl42 (fun _ h9 => h9) rfl dX2_leastWay_106 ?_
    refine lv_iload hx hb dX2_leastWay_109 (lv_at hl 6 rfl) ?_
    refine z_iald (k := (flN sg.2.1 w9)) (f := (lwO u (fun j => nI (costN (rf (psN sg.2.2.1 j).2.2) (psN sg.2.2.1 j).2.1.length)) sg.2.2.1.length (flN sg.2.1 v9) sg.2.2.1.length)) hx hb hK (hW.1 3 _ rfl) (by omega) (by omega) dX2_leastWay_111 ?_
    refine W.widen (k := 0) (n := 0) (by omega) (by omega) ?_
    exact W.iret (v := (lwO u (fun j => nI (costN (rf (psN sg.2.2.1 j).2.2) (psN sg.2.2.1 j).2.1.length)) sg.2.2.1.length (flN sg.2.1 v9) sg.2.2.1.length) (flN sg.2.1 w9)) hx hb hr (fun t ht hW9 => ⟨⟨_, (), rfl, rfl, (by show Wd D S0 _ _; rw [ht]; exact hW)⟩, hS.F ht⟩) (fun q9 h9 => hS.2.2 q9 h9) dX2_leastWay_112
  · skip
    have hc42 : iq < sg.2.2.1.length := hc42
    refine lv_iconst (v := nI 0) hx hb dX2_leastWay_45 (by decide) ?_
    refine lv_istore (lv' := [(7, .int (nI 0)), (6, .int (nI iq)), (0, .ref (a 0)), (1, .int (nI v9)), (2, .int (nI w9)), (3, .int (nI 1)), (4, .int (nI (flN sg.2.1 v9))), (5, .int (nI (flN sg.2.1 w9)))]) hx hb dX2_leastWay_46 hl (by decide) rfl (fun ls hl => ?_)
    refine z_loopM (σ := Nat) (fun q9 => sg.2.2.1.length - q9) (fun q9 ls H locs => lv_has ls 9 [(7, .int (nI q9)), (6, .int (nI iq)), (0, .ref (a 0)), (1, .int (nI v9)), (2, .int (nI w9)), (3, .int (nI 1)), (4, .int (nI (flN sg.2.1 v9))), (5, .int (nI (flN sg.2.1 w9)))] ∧ Wd D S0 (((a 0), .inr (3, [.ref (a 1), .int (nI sg.1.length), .ref (a 4), .ref (a 5), .ref (xe u 3), .ref (a 6), .ref (a 2), .ref (a 3)])) :: ((a 1), fa cs 400 (xF u 0)) :: ((a 2), fa cs 200 (xF u 1)) :: ((a 3), fa cs 12 (lwI u (fun j => nI (costN (rf (psN sg.2.2.1 j).2.2) (psN sg.2.2.1 j).2.1.length)) (lwO u (fun j => nI (costN (rf (psN sg.2.2.1 j).2.2) (psN sg.2.2.1 j).2.1.length)) sg.2.2.1.length (flN sg.2.1 v9) iq) q9)) :: ((a 4), .inr (0, [.int (xm u 0), .ref (xe u 0), .int (nI sg.2.1.length)])) :: ((a 5), .inr (0, [.int (xm u 1), .ref (xe u 1), .int (nI sg.2.2.1.length)])) :: ((a 6), .inr (0, [.int (xm u 2), .ref (xe u 2), .int (nI sg.2.2.2.2.length)])) :: (XE cs u ++ Y)) H ∧ va_S (SA S0) s.heap H locs ∧ (q9 ≤ sg.2.2.1.length)) 0 ⟨lv_sub hl [0, 1, 2, 3, 4, 5, 6, 7] rfl, hW, hS, (show 0 ≤ sg.2.2.1.length from Nat.zero_le _)⟩ (fun dd48 ih48 y9 ls H locs hd9 hI9 => ?_)
    obtain ⟨jq, rfl⟩ : ∃ z, z = y9 := ⟨_, rfl⟩
    have hd48 : sg.2.2.1.length - jq = dd48 := hd9
    have hI9 : lv_has ls 9 [(7, .int (nI jq)), (6, .int (nI iq)), (0, .ref (a 0)), (1, .int (nI v9)), (2, .int (nI w9)), (3, .int (nI 1)), (4, .int (nI (flN sg.2.1 v9))), (5, .int (nI (flN sg.2.1 w9)))] ∧ Wd D S0 (((a 0), .inr (3, [.ref (a 1), .int (nI sg.1.length), .ref (a 4), .ref (a 5), .ref (xe u 3), .ref (a 6), .ref (a 2), .ref (a 3)])) :: ((a 1), fa cs 400 (xF u 0)) :: ((a 2), fa cs 200 (xF u 1)) :: ((a 3), fa cs 12 (lwI u (fun j => nI (costN (rf (psN sg.2.2.1 j).2.2) (psN sg.2.2.1 j).2.1.length)) (lwO u (fun j => nI (costN (rf (psN sg.2.2.1 j).2.2) (psN sg.2.2.1 j).2.1.length)) sg.2.2.1.length (flN sg.2.1 v9) iq) jq)) :: ((a 4), .inr (0, [.int (xm u 0), .ref (xe u 0), .int (nI sg.2.1.length)])) :: ((a 5), .inr (0, [.int (xm u 1), .ref (xe u 1), .int (nI sg.2.2.1.length)])) :: ((a 6), .inr (0, [.int (xm u 2), .ref (xe u 2), .int (nI sg.2.2.2.2.length)])) :: (XE cs u ++ Y)) H ∧ va_S (SA S0) s.heap H locs ∧ (jq ≤ sg.2.2.1.length) := hI9
    obtain ⟨hl, hW, hS, hj9⟩ := hI9
    refine lv_iload hx hb dX2_leastWay_48 (lv_at hl 0 rfl) ?_
    refine lv_aload_n hx hb dX2_leastWay_50 rfl (lv_at hl 2 rfl) ?_
    refine z_get (ci := 3) (v := .ref (a 5)) (C := RX2) (T := TX2) (N := 8) hx hb hts in3 hown hK (hW.1 0 _ rfl) rfl 3 (by decide) fl24 (fun _ h9 => h9) rfl dX2_leastWay_51 ?_
    refine z_csV (As := []) (rest := [.int (nI jq)]) ⟨hx, hb, hml, hown, hts⟩ (c_Jx4a65c_size_8abf5 l D cs (a 5) (xe u 1) sg.2.2.1.length (xm u 1)) (cwV 0 hts gX2_leastWay_Jx4a65c_size_8abf5 rfl rfl rfl (by decide +kernel) ⟨Nat.le_of_ble_eq_true rfl, Nat.le_of_ble_eq_true rfl⟩) (hW.1 5 _ rfl) rfl (hW.1 5 _ rfl) hK rfl hl.1 rfl (Nat.le_of_ble_eq_true rfl) dX2_leastWay_54 ⟨(by rw [hRc]; omega), (by rw [hRs]; omega)⟩ (fun r hq9 => ?_)
    have hq9 : r = nI sg.2.2.1.length := hq9
    subst hq9
    refine z_icmp_ge (tgt := 99) hx hb (by omega) (by omega) dX2_leastWay_57 (by decide) (fun hc57 => ?_) (fun hc57 => ?_)
    · skip
      have hc57 : sg.2.2.1.length ≤ jq := hc57
      have e9 : jq = sg.2.2.1.length := by omega
      rw [e9] at hl hW
      have hW : Wd D S0 (((a 0), .inr (3, [.ref (a 1), .int (nI sg.1.length), .ref (a 4), .ref (a 5), .ref (xe u 3), .ref (a 6), .ref (a 2), .ref (a 3)])) :: ((a 1), fa cs 400 (xF u 0)) :: ((a 2), fa cs 200 (xF u 1)) :: ((a 3), fa cs 12 (lwO u (fun j => nI (costN (rf (psN sg.2.2.1 j).2.2) (psN sg.2.2.1 j).2.1.length)) sg.2.2.1.length (flN sg.2.1 v9) (iq + 1))) :: ((a 4), .inr (0, [.int (xm u 0), .ref (xe u 0), .int (nI sg.2.1.length)])) :: ((a 5), .inr (0, [.int (xm u 1), .ref (xe u 1), .int (nI sg.2.2.1.length)])) :: ((a 6), .inr (0, [.int (xm u 2), .ref (xe u 2), .int (nI sg.2.2.2.2.length)])) :: (XE cs u ++ Y)) H := hW
      refine lv_iinc (v := nI (iq + 1)) (lv' := [(6, .int (nI (iq + 1))), (7, .int (nI sg.2.2.1.length)), (0, .ref (a 0)), (1, .int (nI v9)), (2, .int (nI w9)), (3, .int (nI 1)), (4, .int (nI (flN sg.2.1 v9))), (5, .int (nI (flN sg.2.1 w9)))]) hx hb dX2_leastWay_99 hl (k := 1) rfl (z_inc _) (by decide) rfl (fun ls hl => ?_)
      refine lv_goto (tgt := 33) hx hb dX2_leastWay_102 (by decide) ?_
      exact ih33 (iq + 1) ls H locs (show sg.2.2.1.length - (iq + 1) < dd33 by omega) ⟨lv_sub hl [0, 2, 3, 4, 5, 6, 7] rfl, hW, hS, (show (iq + 1) ≤ sg.2.2.1.length from by omega)⟩
    · skip
      have hc57 : jq < sg.2.2.1.length := hc57
      refine lv_aload_n hx hb dX2_leastWay_60 rfl (lv_at hl 2 rfl) ?_
      refine z_get (ci := 3) (v := .ref (a 5)) (C := RX2) (T := TX2) (N := 8) hx hb hts in3 hown hK (hW.1 0 _ rfl) rfl 3 (by decide) fl24 (fun _ h9 => h9) rfl dX2_leastWay_61 ?_
      refine lv_iload hx hb dX2_leastWay_64 (lv_at hl 0 rfl) ?_
      obtain ⟨hx0, hbf, hbc, hls, hlm, hlh, hrw, hpt, hin, hhr, -⟩ := XH.of (D := D) (cs := cs) (a := a) (σ := sg) (Y := Y) (u := xuF u 2 (lwI u (fun j => nI (costN (rf (psN sg.2.2.1 j).2.2) (psN sg.2.2.1 j).2.1.length)) (lwO u (fun j => nI (costN (rf (psN sg.2.2.1 j).2.2) (psN sg.2.2.1 j).2.1.length)) sg.2.2.1.length (flN sg.2.1 v9) iq) jq)) hW hF.rch
      refine z_csRV (As := [.int (nI jq)]) (rest := []) ⟨hx, hb, hml, hown, hts⟩ (c_Jx4a65c_get_915e3 l D cs (a 5) (xe u 1) sg.2.2.1.length (xc u 1) ((xP u 0) jq) jq (xm u 1) (xg u 1) (by omega) (hlm.2.1 (by omega)).2 (by have := hlm.2.2.1; omega) (hlm.2.2.2 jq (by omega))) (cwV 1 hts gX2_leastWay_Jx4a65c_get_915e3 rfl rfl rfl (by decide +kernel) ⟨Nat.le_of_ble_eq_true rfl, Nat.le_of_ble_eq_true rfl⟩) (hW.1 5 _ rfl) rfl ⟨hlm.1, (hlm.2.1 (by omega)).1⟩ hK rfl hl.1 rfl (Nat.le_of_ble_eq_true rfl) dX2_leastWay_66 ⟨(by rw [hRc]; omega), (by rw [hRs]; omega)⟩ (fun r hq9 => ?_)
      have hq9 : r = (xP u 0 jq) := hq9
      subst hq9
      refine va_castY (C := RX0) (nm := RX0) hx hb hown (hts (.classLink RX2 111 RX0) (by decide +kernel)) (hE.2.2.2.2.1 (RX0, RX0) (by decide)) (z_recv hK (hpt jq (by omega)).1.1 rfl) dX2_leastWay_69 ?_
      refine lv_astore (lv' := [(8, .ref (xP u 0 jq)), (7, .int (nI jq)), (6, .int (nI iq)), (0, .ref (a 0)), (1, .int (nI v9)), (2, .int (nI w9)), (3, .int (nI 1)), (4, .int (nI (flN sg.2.1 v9))), (5, .int (nI (flN sg.2.1 w9)))]) hx hb dX2_leastWay_72 hl (by decide) rfl (fun ls hl => ?_)
      refine lv_aload_n hx hb dX2_leastWay_74 rfl (lv_at hl 3 rfl) ?_
      refine lv_aload hx hb dX2_leastWay_75 (lv_at hl 0 rfl) ?_
      refine lv_iload_n hx hb dX2_leastWay_77 rfl (lv_at hl 6 rfl) ?_
      refine lv_if_eq (tgt := 89) hx hb dX2_leastWay_78 (by decide) (fun h9 => absurd h9 (by decide)) (fun _ => ?_)
      refine lv_aload hx hb dX2_leastWay_81 (lv_at hl 0 rfl) ?_
      refine z_get (ci := 1) (v := .int (nI (costN (rf (psN sg.2.2.1 jq).2.2) (psN sg.2.2.1 jq).2.1.length))) (C := RX0) (T := TX0) (N := 7) hx hb hts in1 hown hK (hpt jq (by omega)).1.1 rfl 6 (by decide) fl152 (fun _ h9 => h9) rfl dX2_leastWay_83 ?_
      refine lv_goto (tgt := 90) hx hb dX2_leastWay_86 (by decide) ?_
      refine z_cmV (va_runV (As := [.ref (xP u 0 jq), .int (nI (costN (rf (psN sg.2.2.1 jq).2.2) (psN sg.2.2.1 jq).2.1.length))]) (rest := []) ⟨hx, hb, hml, hown, hts⟩ (c_X2_reachBy l D cs S0 ea mi sa Y a (xuF u 2 (lwI u (fun j => nI (costN (rf (psN sg.2.2.1 j).2.2) (psN sg.2.2.1 j).2.1.length)) (lwO u (fun j => nI (costN (rf (psN sg.2.2.1 j).2.2) (psN sg.2.2.1 j).2.1.length)) sg.2.2.1.length (flN sg.2.1 v9) iq) jq)) sg hF.rch jq (by omega) (nI (costN (rf (psN sg.2.2.1 jq).2.2) (psN sg.2.2.1 jq).2.1.length))) (cwV 2 hts gX2_leastWay_X2_reachBy rfl rfl rfl (by decide +kernel) ⟨Nat.le_of_ble_eq_true rfl, Nat.le_of_ble_eq_true rfl⟩) ⟨zE_blind, z_recv hK (hW.1 0 _ rfl) rfl, (zE_pre hW hK hE hS)⟩ rfl rfl hl.1 rfl (lv_room (Nat.le_of_ble_eq_true rfl)) dX2_leastWay_90 ⟨(by rw [hRc]; omega), (by rw [hRs]; omega)⟩) hS (fun u7 H locs hu hW hS => ?_)
      have hW : Wd D S0 (((a 0), .inr (3, [.ref (a 1), .int (nI sg.1.length), .ref (a 4), .ref (a 5), .ref (xe u 3), .ref (a 6), .ref (a 2), .ref (a 3)])) :: ((a 1), fa cs 400 (xF u 0)) :: ((a 2), fa cs 200 (xF u 1)) :: ((a 3), fa cs 12 (lwI u (fun j => nI (costN (rf (psN sg.2.2.1 j).2.2) (psN sg.2.2.1 j).2.1.length)) (lwO u (fun j => nI (costN (rf (psN sg.2.2.1 j).2.2) (psN sg.2.2.1 j).2.1.length)) sg.2.2.1.length (flN sg.2.1 v9) iq) (jq + 1))) :: ((a 4), .inr (0, [.int (xm u 0), .ref (xe u 0), .int (nI sg.2.1.length)])) :: ((a 5), .inr (0, [.int (xm u 1), .ref (xe u 1), .int (nI sg.2.2.1.length)])) :: ((a 6), .inr (0, [.int (xm u 2), .ref (xe u 2), .int (nI sg.2.2.2.2.length)])) :: (XE cs u ++ Y)) H := hW
      refine lv_iinc (v := nI (jq + 1)) (lv' := [(7, .int (nI (jq + 1))), (8, .ref (xP u 0 jq)), (6, .int (nI iq)), (0, .ref (a 0)), (1, .int (nI v9)), (2, .int (nI w9)), (3, .int (nI 1)), (4, .int (nI (flN sg.2.1 v9))), (5, .int (nI (flN sg.2.1 w9)))]) hx hb dX2_leastWay_93 hl (k := 1) rfl (z_inc _) (by decide) rfl (fun ls hl => ?_)
      refine lv_goto (tgt := 48) hx hb dX2_leastWay_96 (by decide) ?_
      exact ih48 (jq + 1) ls H locs (show sg.2.2.1.length - (jq + 1) < dd48 by omega) ⟨lv_sub hl [0, 2, 3, 4, 5, 6, 7, 8] rfl, hW, hS, (show (jq + 1) ≤ sg.2.2.1.length from by omega)⟩

