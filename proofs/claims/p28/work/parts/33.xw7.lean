/-! one patch's step in the search for the least way -/
def rbF (f : Nat → Int32) (bi gi : Nat) (w : Int32) : Nat → Int32 := if f bi = (-1) then f else if ¬ f gi = (-1) ∧ ¬ f bi + w < f gi then f else upd f gi (f bi + w)
theorem XF.rch {cs : Nat → ClassId} {ea : Nat} {u : XU} {σ : St} {Y : va_W} {f : Nat → Int32} (h : XF cs ea u σ Y) : XF cs ea (xuF u 2 f) σ Y := h
theorem XF.sums {cs : Nat → ClassId} {ea : Nat} {u : XU} {σ : St} {Y : va_W} {f : Nat → Int32} (h : XF cs ea u σ Y) : XF cs ea (xuF u 1 f) σ Y := h

set_option maxHeartbeats 4000000 in
set_option maxRecDepth 100000 in
theorem c_X2_reachBy (l : Launch) (D : va_G) (cs : Nat → ClassId) (S0 : Nat) (ea mi : Nat) (sa : Nat → Nat) (Y : va_W) (a : Nat → Nat) (u : XU) (sg : St) (hF : XF cs ea u sg Y) (j9 : Nat) (hj : j9 < sg.2.2.1.length) (w9 : Int32) : Met l yX2_reachBy wsX2_reachBy ({ frames := 0, cells := 0, slots := 0, locals := 0 }) (zE [.ref (a 0), .ref (xP u 0 j9), .int w9] (fun H => Wd D S0 (XW cs a u sg Y) H) D cs S0 ea mi sa) (va_Qv (fun _ : Unit => True) (fun _ t => Wd D S0 (XW cs a (xuF u 2 (rbF (xF u 2) (xP u 5 j9) (xP u 6 j9) w9)) sg Y) t.heap) (SA S0)) 0 0 (SA S0) := by
  refine Met.ofW (cc := cX2_reachBy) (maxL := 5) (ret := none) (by decide) rfl ?_
  intro p e s m args below meth c s₁ B hml hv
  obtain ⟨rfl, hW, hK, hE⟩ := hv
  have hx := B.exec
  have hb := B.bytes
  have hr := B.returns
  have hts := atoms_spec (ws := wsX2_reachBy) B.pre
  have hown : s.vm.findClass RX2 = some m.cls := findClass_of_methodNamed B.named
  have hlocks := B.notSynchronized
  have hRc : (headSpec wsX2_reachBy ({ frames := 0, cells := 0, slots := 0, locals := 0 })).room.cells = 0 := rfl
  have hRs : (headSpec wsX2_reachBy ({ frames := 0, cells := 0, slots := 0, locals := 0 })).room.slots = 0 := rfl
  have fl124 := hts (.fieldLink RX2 124 "DeltaUpdater$Patch" "goal" "I") (by decide +kernel)
  have fl127 := hts (.fieldLink RX2 127 "DeltaUpdater$Patch" "base" "I") (by decide +kernel)
  have fl42 := hts (.fieldLink RX2 42 "DeltaUpdater" "reached" "[I") (by decide +kernel)
  have in1 : ∀ w ∈ u_ws RX0 TX0 7, w ∈ wsX2_reachBy := by decide +kernel
  have in3 : ∀ w ∈ u_ws RX2 TX2 8, w ∈ wsX2_reachBy := by decide +kernel
  have hW : Wd D S0 (XW cs a u sg Y) s.heap := hW
  have hS0 : S0 ≤ s.heap.size := hW.2.2
  have hS : va_S (SA S0) s.heap s.heap [] := va_S.rf
  have hl := lv_entry ([.ref (a 0), .ref (xP u 0 j9), .int w9]) (n := 5) (Nat.le_of_ble_eq_true rfl)
  rw [lg_entry_eq]
  generalize (lg_sl ([.ref (a 0), .ref (xP u 0 j9), .int w9]) ++ List.replicate (5 - (lg_sl ([.ref (a 0), .ref (xP u 0 j9), .int w9])).length) Slot.unset).toArray = ls at hl ⊢
  have hl : lv_has ls 5 [(0, .ref (a 0)), (1, .ref (xP u 0 j9)), (2, .int w9)] := hl
  obtain ⟨fbf, fl0, fl1, fl2, frw, fpt, fin, fhi, hok⟩ := id hF
  obtain ⟨hx0, hbf, hbc, hls, hlm, hlh, hrw, hpt, hin, hhr, -⟩ := XH.of (Y := Y) hW hF
  have hbl := hok.1.1
  have hnv := hok.2.1.1
  have hnp := hok.2.2.1.1
  have hnh := hok.2.2.2.2.1
  have hb5 := (fpt j9 hj).2.1.1
  have hb6 := (fpt j9 hj).2.2.1
  refine lv_aload_n hx hb dX2_reachBy_0 rfl (lv_at hl 0 rfl) ?_
  refine z_get (ci := 3) (v := .ref (a 3)) (C := RX2) (T := TX2) (N := 8) hx hb hts in3 hown hK (hW.1 0 _ rfl) rfl 7 (by decide) fl42 (fun _ h9 => h9) rfl dX2_reachBy_1 ?_
  refine lv_aload_n hx hb dX2_reachBy_4 rfl (lv_at hl 1 rfl) ?_
  refine z_get (ci := 1) (v := .int (nI (xP u 5 j9))) (C := RX0) (T := TX0) (N := 7) hx hb hts in1 hown hK (hpt j9 (by omega)).1.1 rfl 0 (by decide) fl127 (fun _ h9 => h9) rfl dX2_reachBy_5 ?_
  refine z_iald (k := (xP u 5 j9)) (f := (xF u 2)) hx hb hK (hW.1 3 _ rfl) (by omega) (by omega) dX2_reachBy_8 ?_
  refine lv_istore_n (lv' := [(3, .int ((xF u 2) (xP u 5 j9))), (0, .ref (a 0)), (1, .ref (xP u 0 j9)), (2, .int w9)]) hx hb dX2_reachBy_9 rfl hl (by decide) rfl (fun ls hl => ?_)
  refine lv_iload_n hx hb dX2_reachBy_10 rfl (lv_at hl 0 rfl) ?_
  refine lv_iconst (v := (-1 : Int32)) hx hb dX2_reachBy_11 (by decide) ?_
  refine lv_icmp_ne (tgt := 16) hx hb dX2_reachBy_12 (by decide) (fun hc12 => ?_) (fun hc12 => ?_)
  · skip
    have hc12 : ¬ ((xF u 2) (xP u 5 j9)) = (-1 : Int32) := hc12
    refine lv_aload_n hx hb dX2_reachBy_16 rfl (lv_at hl 1 rfl) ?_
    refine z_get (ci := 3) (v := .ref (a 3)) (C := RX2) (T := TX2) (N := 8) hx hb hts in3 hown hK (hW.1 0 _ rfl) rfl 7 (by decide) fl42 (fun _ h9 => h9) rfl dX2_reachBy_17 ?_
    refine lv_aload_n hx hb dX2_reachBy_20 rfl (lv_at hl 2 rfl) ?_
    refine z_get (ci := 1) (v := .int (nI (xP u 6 j9))) (C := RX0) (T := TX0) (N := 7) hx hb hts in1 hown hK (hpt j9 (by omega)).1.1 rfl 1 (by decide) fl124 (fun _ h9 => h9) rfl dX2_reachBy_21 ?_
    refine z_iald (k := (xP u 6 j9)) (f := (xF u 2)) hx hb hK (hW.1 3 _ rfl) (by omega) (by omega) dX2_reachBy_24 ?_
    refine lv_istore (lv' := [(4, .int ((xF u 2) (xP u 6 j9))), (3, .int ((xF u 2) (xP u 5 j9))), (0, .ref (a 0)), (1, .ref (xP u 0 j9)), (2, .int w9)]) hx hb dX2_reachBy_25 hl (by decide) rfl (fun ls hl => ?_)
    refine lv_iload hx hb dX2_reachBy_27 (lv_at hl 0 rfl) ?_
    refine lv_iconst (v := (-1 : Int32)) hx hb dX2_reachBy_29 (by decide) ?_
    refine lv_icmp_eq (tgt := 41) hx hb dX2_reachBy_30 (by decide) (fun hc30 => ?_) (fun hc30 => ?_)
    · skip
      have hc30 : ((xF u 2) (xP u 6 j9)) = (-1 : Int32) := hc30
      refine lv_aload_n hx hb dX2_reachBy_41 rfl (lv_at hl 2 rfl) ?_
      refine z_get (ci := 3) (v := .ref (a 3)) (C := RX2) (T := TX2) (N := 8) hx hb hts in3 hown hK (hW.1 0 _ rfl) rfl 7 (by decide) fl42 (fun _ h9 => h9) rfl dX2_reachBy_42 ?_
      refine lv_aload_n hx hb dX2_reachBy_45 rfl (lv_at hl 3 rfl) ?_
      refine z_get (ci := 1) (v := .int (nI (xP u 6 j9))) (C := RX0) (T := TX0) (N := 7) hx hb hts in1 hown hK (hpt j9 (by omega)).1.1 rfl 1 (by decide) fl124 (fun _ h9 => h9) rfl dX2_reachBy_46 ?_
      refine lv_iload_n hx hb dX2_reachBy_49 rfl (lv_at hl 1 rfl) ?_
      refine lv_iload_n hx hb dX2_reachBy_50 rfl (lv_at hl 4 rfl) ?_
      refine lv_iadd hx hb dX2_reachBy_51 ?_
      refine z_iast (k := (xP u 6 j9)) (x := ((xF u 2) (xP u 5 j9)) + w9) (n := 12) (f := (xF u 2)) hx hb hK hW hS 3 rfl (by omega) (by omega) dX2_reachBy_52 (fun H locs hW hS => ?_)
      have hW : Wd D S0 (((a 0), .inr (3, [.ref (a 1), .int (nI sg.1.length), .ref (a 4), .ref (a 5), .ref (xe u 3), .ref (a 6), .ref (a 2), .ref (a 3)])) :: ((a 1), fa cs 400 (xF u 0)) :: ((a 2), fa cs 200 (xF u 1)) :: ((a 3), fa cs 12 (upd (xF u 2) (xP u 6 j9) (((xF u 2) (xP u 5 j9)) + w9))) :: ((a 4), .inr (0, [.int (xm u 0), .ref (xe u 0), .int (nI sg.2.1.length)])) :: ((a 5), .inr (0, [.int (xm u 1), .ref (xe u 1), .int (nI sg.2.2.1.length)])) :: ((a 6), .inr (0, [.int (xm u 2), .ref (xe u 2), .int (nI sg.2.2.2.2.length)])) :: (XE cs u ++ Y)) H := hW
      have e9 : (rbF (xF u 2) (xP u 5 j9) (xP u 6 j9) w9) = (upd (xF u 2) (xP u 6 j9) (xF u 2 (xP u 5 j9) + w9)) := by unfold rbF; rw [if_neg hc12, if_neg (fun z => z.1 hc30)]
      have hW : Wd D S0 (XW cs a (xuF u 2 (upd (xF u 2) (xP u 6 j9) (xF u 2 (xP u 5 j9) + w9))) sg Y) _ := hW
      rw [← e9] at hW
      refine W.widen (k := 0) (n := 0) (by omega) (by omega) ?_
      exact W.vret hx hb hr (fun t ht hW9 => ⟨⟨(), rfl, trivial, (by show Wd D S0 _ _; rw [ht]; exact hW)⟩, hS.F ht⟩) (fun q9 h9 => hS.2.2 q9 h9) dX2_reachBy_53
    · skip
      have hc30 : ¬ ((xF u 2) (xP u 6 j9)) = (-1 : Int32) := hc30
      refine lv_iload_n hx hb dX2_reachBy_33 rfl (lv_at hl 1 rfl) ?_
      refine lv_iload_n hx hb dX2_reachBy_34 rfl (lv_at hl 4 rfl) ?_
      refine lv_iadd hx hb dX2_reachBy_35 ?_
      refine lv_iload hx hb dX2_reachBy_36 (lv_at hl 0 rfl) ?_
      refine lv_icmp_ge (tgt := 53) hx hb dX2_reachBy_38 (by decide) (fun hc38 => ?_) (fun hc38 => ?_)
      · skip
        have hc38 : ((xF u 2) (xP u 6 j9)) ≤ (((xF u 2) (xP u 5 j9)) + w9) := hc38
        have e9 : (rbF (xF u 2) (xP u 5 j9) (xP u 6 j9) w9) = xF u 2 := by unfold rbF; rw [if_neg hc12, if_pos ⟨hc30, Int32.not_lt.mpr hc38⟩]
        have hW : Wd D S0 (XW cs a (xuF u 2 (xF u 2)) sg Y) _ := hW
        rw [← e9] at hW
        refine W.widen (k := 0) (n := 0) (by omega) (by omega) ?_
        exact W.vret hx hb hr (fun t ht hW9 => ⟨⟨(), rfl, trivial, (by show Wd D S0 _ _; rw [ht]; exact hW)⟩, hS.F ht⟩) (fun q9 h9 => hS.2.2 q9 h9) dX2_reachBy_53
      · skip
        have hc38 : ¬ ((xF u 2) (xP u 6 j9)) ≤ (((xF u 2) (xP u 5 j9)) + w9) := hc38
        refine lv_aload_n hx hb dX2_reachBy_41 rfl (lv_at hl 2 rfl) ?_
        refine z_get (ci := 3) (v := .ref (a 3)) (C := RX2) (T := TX2) (N := 8) hx hb hts in3 hown hK (hW.1 0 _ rfl) rfl 7 (by decide) fl42 (fun _ h9 => h9) rfl dX2_reachBy_42 ?_
        refine lv_aload_n hx hb dX2_reachBy_45 rfl (lv_at hl 3 rfl) ?_
        refine z_get (ci := 1) (v := .int (nI (xP u 6 j9))) (C := RX0) (T := TX0) (N := 7) hx hb hts in1 hown hK (hpt j9 (by omega)).1.1 rfl 1 (by decide) fl124 (fun _ h9 => h9) rfl dX2_reachBy_46 ?_
        refine lv_iload_n hx hb dX2_reachBy_49 rfl (lv_at hl 1 rfl) ?_
        refine lv_iload_n hx hb dX2_reachBy_50 rfl (lv_at hl 4 rfl) ?_
        refine lv_iadd hx hb dX2_reachBy_51 ?_
        refine z_iast (k := (xP u 6 j9)) (x := ((xF u 2) (xP u 5 j9)) + w9) (n := 12) (f := (xF u 2)) hx hb hK hW hS 3 rfl (by omega) (by omega) dX2_reachBy_52 (fun H locs hW hS => ?_)
        have hW : Wd D S0 (((a 0), .inr (3, [.ref (a 1), .int (nI sg.1.length), .ref (a 4), .ref (a 5), .ref (xe u 3), .ref (a 6), .ref (a 2), .ref (a 3)])) :: ((a 1), fa cs 400 (xF u 0)) :: ((a 2), fa cs 200 (xF u 1)) :: ((a 3), fa cs 12 (upd (xF u 2) (xP u 6 j9) (((xF u 2) (xP u 5 j9)) + w9))) :: ((a 4), .inr (0, [.int (xm u 0), .ref (xe u 0), .int (nI sg.2.1.length)])) :: ((a 5), .inr (0, [.int (xm u 1), .ref (xe u 1), .int (nI sg.2.2.1.length)])) :: ((a 6), .inr (0, [.int (xm u 2), .ref (xe u 2), .int (nI sg.2.2.2.2.length)])) :: (XE cs u ++ Y)) H := hW
        have e9 : (rbF (xF u 2) (xP u 5 j9) (xP u 6 j9) w9) = (upd (xF u 2) (xP u 6 j9) (xF u 2 (xP u 5 j9) + w9)) := by unfold rbF; rw [if_neg hc12, if_neg (fun z => z.2 (Int32.not_le.mp hc38))]
        have hW : Wd D S0 (XW cs a (xuF u 2 (upd (xF u 2) (xP u 6 j9) (xF u 2 (xP u 5 j9) + w9))) sg Y) _ := hW
        rw [← e9] at hW
        refine W.widen (k := 0) (n := 0) (by omega) (by omega) ?_
        exact W.vret hx hb hr (fun t ht hW9 => ⟨⟨(), rfl, trivial, (by show Wd D S0 _ _; rw [ht]; exact hW)⟩, hS.F ht⟩) (fun q9 h9 => hS.2.2 q9 h9) dX2_reachBy_53
  · skip
    have hc12 : ((xF u 2) (xP u 5 j9)) = (-1 : Int32) := hc12
    have hc12 : xF u 2 (xP u 5 j9) = (-1) := hc12
    have e9 : (rbF (xF u 2) (xP u 5 j9) (xP u 6 j9) w9) = xF u 2 := if_pos hc12
    have hW : Wd D S0 (XW cs a (xuF u 2 (xF u 2)) sg Y) _ := hW
    rw [← e9] at hW
    refine W.widen (k := 0) (n := 0) (by omega) (by omega) ?_
    exact W.vret hx hb hr (fun t ht hW9 => ⟨⟨(), rfl, trivial, (by show Wd D S0 _ _; rw [ht]; exact hW)⟩, hS.F ht⟩) (fun q9 h9 => hS.2.2 q9 h9) dX2_reachBy_15

