/-! install, roll back -/
set_option maxHeartbeats 4000000 in
set_option maxRecDepth 100000 in
theorem c_X2_install_a (l : Launch) (D : va_G) (cs : Nat → ClassId) (S0 : Nat) (ea mi : Nat) (sa : Nat → Nat) (Y : va_W) (a : Nat → Nat) (u : XU) (sg : St) (hF : XF cs ea u sg Y) (r9 b9 : Nat) (xs : BL) (hr9 : RM cs r9 b9 xs Y) (hx9 : rowOk xs) (hlt : sg.2.2.2.2.length < 20) : Met l yX2_install wsX2_install ({ frames := 7, cells := 1, slots := 400, locals := 171 }) (zE [.ref (a 0), .ref r9] (fun H => Wd D S0 (XW cs a u sg Y) H) D cs S0 ea mi sa) (va_Qi (fun r (v : XU × va_W) => r = nI (stH sg sg.2.2.2.1).2.2.2.2.length ∧ XF cs ea v.1 (stJ (stH sg sg.2.2.2.1) xs) (v.2 ++ Y)) (fun v t => Wd D S0 (XW cs a v.1 (stJ (stH sg sg.2.2.2.1) xs) (v.2 ++ Y)) t.heap) (SA S0)) 1 400 (SA S0) := by
  refine Met.ofW (cc := cX2_install) (maxL := 2) (ret := (some .int)) (by decide) rfl ?_
  intro p e s m args below meth c s₁ B hml hv
  obtain ⟨rfl, hW, hK, hE⟩ := hv
  have hx := B.exec
  have hb := B.bytes
  have hr := B.returns
  have hts := atoms_spec (ws := wsX2_install) B.pre
  have hown : s.vm.findClass RX2 = some m.cls := findClass_of_methodNamed B.named
  have hlocks := B.notSynchronized
  have hRc : (headSpec wsX2_install ({ frames := 7, cells := 1, slots := 400, locals := 171 })).room.cells = 1 := rfl
  have hRs : (headSpec wsX2_install ({ frames := 7, cells := 1, slots := 400, locals := 171 })).room.slots = 400 := rfl
  have fl32 := hts (.fieldLink RX2 32 "DeltaUpdater" "installed" "LDeltaUpdater$Row;") (by decide +kernel)
  have fl36 := hts (.fieldLink RX2 36 "DeltaUpdater" "history" "Ljava/util/ArrayList;") (by decide +kernel)
  have in3 : ∀ w ∈ u_ws RX2 TX2 8, w ∈ wsX2_install := by decide +kernel
  have hW : Wd D S0 (XW cs a u sg Y) s.heap := hW
  have hS0 : S0 ≤ s.heap.size := hW.2.2
  have hS : va_S (SA S0) s.heap s.heap [] := va_S.rf
  have hl := lv_entry ([.ref (a 0), .ref r9]) (n := 2) (Nat.le_of_ble_eq_true rfl)
  rw [lg_entry_eq]
  generalize (lg_sl ([.ref (a 0), .ref r9]) ++ List.replicate (2 - (lg_sl ([.ref (a 0), .ref r9])).length) Slot.unset).toArray = ls at hl ⊢
  have hl : lv_has ls 2 [(0, .ref (a 0)), (1, .ref r9)] := hl
  obtain ⟨fbf, fl0, fl1, fl2, frw, fpt, fin, fhi, hok⟩ := id hF
  obtain ⟨hx0, hbf, hbc, hls, hlm, hlh, hrw, hpt, hin, hhr, -⟩ := XH.of (Y := Y) hW hF
  have hbl := hok.1.1
  have hnv := hok.2.1.1
  have hnp := hok.2.2.1.1
  have hnh := hok.2.2.2.2.1
  refine lv_aload_n hx hb dX2_install_0 rfl (lv_at hl 0 rfl) ?_
  refine z_get (ci := 3) (v := .ref (a 6)) (C := RX2) (T := TX2) (N := 8) hx hb hts in3 hown hK (hW.1 0 _ rfl) rfl 5 (by decide) fl36 (fun _ h9 => h9) rfl dX2_install_1 ?_
  refine z_csV (As := []) (rest := []) ⟨hx, hb, hml, hown, hts⟩ (c_Jx4a65c_size_8abf5 l D cs (a 6) (xe u 2) sg.2.2.2.2.length (xm u 2)) (cwV 0 hts gX2_install_Jx4a65c_size_8abf5 rfl rfl rfl (by decide +kernel) ⟨Nat.le_of_ble_eq_true rfl, Nat.le_of_ble_eq_true rfl⟩) (hW.1 6 _ rfl) rfl (hW.1 6 _ rfl) hK rfl hl.1 rfl (Nat.le_of_ble_eq_true rfl) dX2_install_4 ⟨(by rw [hRc]; omega), (by rw [hRs]; omega)⟩ (fun r hq9 => ?_)
  have hq9 : r = nI sg.2.2.2.2.length := hq9
  subst hq9
  refine lv_bipush (v := nI 20) hx hb dX2_install_7 (by decide) ?_
  refine z_icmp_lt (tgt := 21) hx hb (by omega) (by omega) dX2_install_9 (by decide) (fun hc9 => ?_) (fun hc9 => ?_)
  · skip
    have hc9 : sg.2.2.2.2.length < 20 := hc9
    refine lv_aload_n hx hb dX2_install_21 rfl (lv_at hl 0 rfl) ?_
    refine z_get (ci := 3) (v := .ref (a 6)) (C := RX2) (T := TX2) (N := 8) hx hb hts in3 hown hK (hW.1 0 _ rfl) rfl 5 (by decide) fl36 (fun _ h9 => h9) rfl dX2_install_22 ?_
    refine lv_aload_n hx hb dX2_install_25 rfl (lv_at hl 0 rfl) ?_
    refine z_get (ci := 3) (v := .ref (xe u 3)) (C := RX2) (T := TX2) (N := 8) hx hb hts in3 hown hK (hW.1 0 _ rfl) rfl 4 (by decide) fl32 (fun _ h9 => h9) rfl dX2_install_26 ?_
    have hW := XW.out2 (u := u) (σ := sg) (Y := Y) hW
    refine z_cmI (va_runV (As := [.ref (xe u 3)]) (rest := []) ⟨hx, hb, hml, hown, hts⟩ (c_add l D cs S0 ea mi sa (XR2 cs a u sg ++ Y) (a 6) (xe u 2) sg.2.2.2.2.length (xc u 2) 2 (xm u 2) (xg u 2) hF.2.2.2.1.1 hF.2.2.2.1.2.2.1 hF.2.2.2.1.2.1 (by omega) (Or.inr rfl) (fun i hi => ⟨xR u 2 i, _, hF.2.2.2.1.2.2.2 i hi, List.mem_append_right _ (hF.2.2.2.2.2.2.2.1 i hi).1⟩) (xe u 3) [.ref (xe u 4)] (List.mem_append_right _ fin.1)) (cwV 1 hts gX2_install_Jx4a65c_add_9ea2d rfl rfl rfl (by decide +kernel) ⟨Nat.le_of_ble_eq_true rfl, Nat.le_of_ble_eq_true rfl⟩) ⟨zE_blind, z_recv hK (hW.1 0 _ rfl) rfl, (zE_pre hW hK hE hS)⟩ rfl rfl hl.1 rfl (lv_room (Nat.le_of_ble_eq_true rfl)) dX2_install_29 ⟨(by rw [hRc]; omega), (by rw [hRs]; omega)⟩) hS (fun r u8 H locs hu hW hS => ?_)
    have hlen : (stH sg sg.2.2.2.1).2.2.2.2.length = sg.2.2.2.2.length + 1 := List.length_append
    rw [← hlen] at hW
    have hW := XW.in2 (u := (xuA u 2 (xm u 2 + nI 1) u8 sg.2.2.2.2.length (xe u 3) (xe u 4))) (σ := (stH sg sg.2.2.2.1)) hW
    have hF3 := (hF.addH (mc := xm u 2 + nI 1) (xs := sg.2.2.2.1) (r := xe u 3) (b := xe u 4) hu fin hok.2.2.2.1 (by omega)).more (Y' := u8.2.2.2 ++ Y) (fun q hq => List.mem_append_right _ hq)
    have hW : Wd D S0 (((a 0), .inr (3, [.ref (a 1), .int (nI sg.1.length), .ref (a 4), .ref (a 5), .ref (xe u 3), .ref (a 6), .ref (a 2), .ref (a 3)])) :: ((a 1), fa cs 400 (xF (xuA u 2 (xm u 2 + nI 1) u8 sg.2.2.2.2.length (xe u 3) (xe u 4)) 0)) :: ((a 2), fa cs 200 (xF (xuA u 2 (xm u 2 + nI 1) u8 sg.2.2.2.2.length (xe u 3) (xe u 4)) 1)) :: ((a 3), fa cs 12 (xF (xuA u 2 (xm u 2 + nI 1) u8 sg.2.2.2.2.length (xe u 3) (xe u 4)) 2)) :: ((a 4), .inr (0, [.int (xm (xuA u 2 (xm u 2 + nI 1) u8 sg.2.2.2.2.length (xe u 3) (xe u 4)) 0), .ref (xe (xuA u 2 (xm u 2 + nI 1) u8 sg.2.2.2.2.length (xe u 3) (xe u 4)) 0), .int (nI sg.2.1.length)])) :: ((a 5), .inr (0, [.int (xm (xuA u 2 (xm u 2 + nI 1) u8 sg.2.2.2.2.length (xe u 3) (xe u 4)) 1), .ref (xe (xuA u 2 (xm u 2 + nI 1) u8 sg.2.2.2.2.length (xe u 3) (xe u 4)) 1), .int (nI sg.2.2.1.length)])) :: ((a 6), .inr (0, [.int (xm u 2 + nI 1), .ref u8.1, .int (nI ((stH sg sg.2.2.2.1).2.2.2.2.length))])) :: (XE cs (xuA u 2 (xm u 2 + nI 1) u8 sg.2.2.2.2.length (xe u 3) (xe u 4)) ++ (u8.2.2.2 ++ Y))) H := hW
    refine lv_pop hx hb dX2_install_32 rfl ?_
    refine lv_aload_n hx hb dX2_install_33 rfl (lv_at hl 0 rfl) ?_
    refine lv_aload_n hx hb dX2_install_34 rfl (lv_at hl 1 rfl) ?_
    refine z_put (ty := (.object "DeltaUpdater$Row")) (ci := 3) (v := .ref r9) (C := RX2) (T := TX2) (N := 8) hx hb hts in3 tyX2 tyX2_ok nmX2 hown hK hW hS 0 rfl rfl 4 (by decide) fl32 (fun _ h9 => h9) rfl (by decide +kernel) rfl rfl (Nat.le_of_ble_eq_true rfl) dX2_install_35 (fun H locs hW hS => ?_)
    have hW : Wd D S0 (((a 0), .inr (3, [.ref (a 1), .int (nI sg.1.length), .ref (a 4), .ref (a 5), .ref r9, .ref (a 6), .ref (a 2), .ref (a 3)])) :: ((a 1), fa cs 400 (xF (xuA u 2 (xm u 2 + nI 1) u8 sg.2.2.2.2.length (xe u 3) (xe u 4)) 0)) :: ((a 2), fa cs 200 (xF (xuA u 2 (xm u 2 + nI 1) u8 sg.2.2.2.2.length (xe u 3) (xe u 4)) 1)) :: ((a 3), fa cs 12 (xF (xuA u 2 (xm u 2 + nI 1) u8 sg.2.2.2.2.length (xe u 3) (xe u 4)) 2)) :: ((a 4), .inr (0, [.int (xm (xuA u 2 (xm u 2 + nI 1) u8 sg.2.2.2.2.length (xe u 3) (xe u 4)) 0), .ref (xe (xuA u 2 (xm u 2 + nI 1) u8 sg.2.2.2.2.length (xe u 3) (xe u 4)) 0), .int (nI sg.2.1.length)])) :: ((a 5), .inr (0, [.int (xm (xuA u 2 (xm u 2 + nI 1) u8 sg.2.2.2.2.length (xe u 3) (xe u 4)) 1), .ref (xe (xuA u 2 (xm u 2 + nI 1) u8 sg.2.2.2.2.length (xe u 3) (xe u 4)) 1), .int (nI sg.2.2.1.length)])) :: ((a 6), .inr (0, [.int (xm u 2 + nI 1), .ref u8.1, .int (nI ((stH sg sg.2.2.2.1).2.2.2.2.length))])) :: (XE cs (xuA u 2 (xm u 2 + nI 1) u8 sg.2.2.2.2.length (xe u 3) (xe u 4)) ++ (u8.2.2.2 ++ Y))) H := hW
    refine lv_aload_n hx hb dX2_install_38 rfl (lv_at hl 0 rfl) ?_
    refine z_get (ci := 3) (v := .ref (a 6)) (C := RX2) (T := TX2) (N := 8) hx hb hts in3 hown hK (hW.1 0 _ rfl) rfl 5 (by decide) fl36 (fun _ h9 => h9) rfl dX2_install_39 ?_
    refine z_csV (As := []) (rest := []) ⟨hx, hb, hml, hown, hts⟩ (c_Jx4a65c_size_8abf5 l D cs (a 6) u8.1 (stH sg sg.2.2.2.1).2.2.2.2.length (xm u 2 + nI 1)) (cwV 0 hts gX2_install_Jx4a65c_size_8abf5 rfl rfl rfl (by decide +kernel) ⟨Nat.le_of_ble_eq_true rfl, Nat.le_of_ble_eq_true rfl⟩) (hW.1 6 _ rfl) rfl (hW.1 6 _ rfl) hK rfl hl.1 rfl (Nat.le_of_ble_eq_true rfl) dX2_install_42 ⟨(by rw [hRc]; omega), (by rw [hRs]; omega)⟩ (fun r hq9 => ?_)
    have hq9 : r = nI ((stH sg sg.2.2.2.1).2.2.2.2.length) := hq9
    subst hq9
    have hF4 := hF3.inst (hr9.more (Y' := u8.2.2.2 ++ Y) (fun q hq => List.mem_append_right _ hq)) hx9
    refine W.widen (k := 1) (n := 400) (by omega) (by omega) ?_
    exact W.iret (v := nI ((stH sg sg.2.2.2.1).2.2.2.2.length)) hx hb hr (fun t ht hW9 => ⟨⟨_, ((xuJ (xuA u 2 (xm u 2 + nI 1) u8 sg.2.2.2.2.length (xe u 3) (xe u 4)) r9 b9), u8.2.2.2), rfl, ⟨rfl, hF4⟩, (by show Wd D S0 _ _; rw [ht]; exact hW)⟩, hS.F ht⟩) (fun q9 h9 => hS.2.2 q9 h9) dX2_install_45
  · skip
    have hc9 : 20 ≤ sg.2.2.2.2.length := hc9
    omega

set_option maxHeartbeats 4000000 in
set_option maxRecDepth 100000 in
theorem c_X2_install_b (l : Launch) (D : va_G) (cs : Nat → ClassId) (S0 : Nat) (ea mi : Nat) (sa : Nat → Nat) (Y : va_W) (a : Nat → Nat) (u : XU) (sg : St) (hF : XF cs ea u sg Y) (r9 b9 : Nat) (xs : BL) (hr9 : RM cs r9 b9 xs Y) (hx9 : rowOk xs) (hge : 20 ≤ sg.2.2.2.2.length) : Met l yX2_install wsX2_install ({ frames := 7, cells := 1, slots := 400, locals := 171 }) (zE [.ref (a 0), .ref r9] (fun H => Wd D S0 (XW cs a u sg Y) H) D cs S0 ea mi sa) (va_Qi (fun r (v : XU × va_W) => r = nI (stH (stD sg 0) sg.2.2.2.1).2.2.2.2.length ∧ XF cs ea v.1 (stJ (stH (stD sg 0) sg.2.2.2.1) xs) (v.2 ++ Y)) (fun v t => Wd D S0 (XW cs a v.1 (stJ (stH (stD sg 0) sg.2.2.2.1) xs) (v.2 ++ Y)) t.heap) (SA S0)) 1 400 (SA S0) := by
  refine Met.ofW (cc := cX2_install) (maxL := 2) (ret := (some .int)) (by decide) rfl ?_
  intro p e s m args below meth c s₁ B hml hv
  obtain ⟨rfl, hW, hK, hE⟩ := hv
  have hx := B.exec
  have hb := B.bytes
  have hr := B.returns
  have hts := atoms_spec (ws := wsX2_install) B.pre
  have hown : s.vm.findClass RX2 = some m.cls := findClass_of_methodNamed B.named
  have hlocks := B.notSynchronized
  have hRc : (headSpec wsX2_install ({ frames := 7, cells := 1, slots := 400, locals := 171 })).room.cells = 1 := rfl
  have hRs : (headSpec wsX2_install ({ frames := 7, cells := 1, slots := 400, locals := 171 })).room.slots = 400 := rfl
  have fl32 := hts (.fieldLink RX2 32 "DeltaUpdater" "installed" "LDeltaUpdater$Row;") (by decide +kernel)
  have fl36 := hts (.fieldLink RX2 36 "DeltaUpdater" "history" "Ljava/util/ArrayList;") (by decide +kernel)
  have in3 : ∀ w ∈ u_ws RX2 TX2 8, w ∈ wsX2_install := by decide +kernel
  have hW : Wd D S0 (XW cs a u sg Y) s.heap := hW
  have hS0 : S0 ≤ s.heap.size := hW.2.2
  have hS : va_S (SA S0) s.heap s.heap [] := va_S.rf
  have hl := lv_entry ([.ref (a 0), .ref r9]) (n := 2) (Nat.le_of_ble_eq_true rfl)
  rw [lg_entry_eq]
  generalize (lg_sl ([.ref (a 0), .ref r9]) ++ List.replicate (2 - (lg_sl ([.ref (a 0), .ref r9])).length) Slot.unset).toArray = ls at hl ⊢
  have hl : lv_has ls 2 [(0, .ref (a 0)), (1, .ref r9)] := hl
  obtain ⟨fbf, fl0, fl1, fl2, frw, fpt, fin, fhi, hok⟩ := id hF
  obtain ⟨hx0, hbf, hbc, hls, hlm, hlh, hrw, hpt, hin, hhr, -⟩ := XH.of (Y := Y) hW hF
  have hbl := hok.1.1
  have hnv := hok.2.1.1
  have hnp := hok.2.2.1.1
  have hnh := hok.2.2.2.2.1
  refine lv_aload_n hx hb dX2_install_0 rfl (lv_at hl 0 rfl) ?_
  refine z_get (ci := 3) (v := .ref (a 6)) (C := RX2) (T := TX2) (N := 8) hx hb hts in3 hown hK (hW.1 0 _ rfl) rfl 5 (by decide) fl36 (fun _ h9 => h9) rfl dX2_install_1 ?_
  refine z_csV (As := []) (rest := []) ⟨hx, hb, hml, hown, hts⟩ (c_Jx4a65c_size_8abf5 l D cs (a 6) (xe u 2) sg.2.2.2.2.length (xm u 2)) (cwV 0 hts gX2_install_Jx4a65c_size_8abf5 rfl rfl rfl (by decide +kernel) ⟨Nat.le_of_ble_eq_true rfl, Nat.le_of_ble_eq_true rfl⟩) (hW.1 6 _ rfl) rfl (hW.1 6 _ rfl) hK rfl hl.1 rfl (Nat.le_of_ble_eq_true rfl) dX2_install_4 ⟨(by rw [hRc]; omega), (by rw [hRs]; omega)⟩ (fun r hq9 => ?_)
  have hq9 : r = nI sg.2.2.2.2.length := hq9
  subst hq9
  refine lv_bipush (v := nI 20) hx hb dX2_install_7 (by decide) ?_
  refine z_icmp_lt (tgt := 21) hx hb (by omega) (by omega) dX2_install_9 (by decide) (fun hc9 => ?_) (fun hc9 => ?_)
  · skip
    have hc9 : sg.2.2.2.2.length < 20 := hc9
    omega
  · skip
    have hc9 : 20 ≤ sg.2.2.2.2.length := hc9
    refine lv_aload_n hx hb dX2_install_12 rfl (lv_at hl 0 rfl) ?_
    refine z_get (ci := 3) (v := .ref (a 6)) (C := RX2) (T := TX2) (N := 8) hx hb hts in3 hown hK (hW.1 0 _ rfl) rfl 5 (by decide) fl36 (fun _ h9 => h9) rfl dX2_install_13 ?_
    refine lv_iconst (v := nI 0) hx hb dX2_install_16 (by decide) ?_
    have hW := XW.out2 (u := u) (σ := sg) (Y := Y) hW
    have hcap : xc u 2 ≠ 0 := by have := fl2.2.1; omega
    have hW : Wd D S0 ((a 6, LO (xm u 2) (xe u 2) sg.2.2.2.2.length) :: (LE cs (xe u 2) (xc u 2) (xg u 2) ++ (XR2 cs a u sg ++ Y))) _ := hW
    rw [LE_1 hcap] at hW
    refine z_cmR (va_runV (As := [.int (nI 0)]) (rest := []) ⟨hx, hb, hml, hown, hts⟩ (c_Jx4a65c_remove_915e3 l D cs S0 ea mi sa (XR2 cs a u sg ++ Y) (a 6) (xe u 2) (xc u 2) sg.2.2.2.2.length 2 0 (xm u 2) (xg u 2) (by omega) fl2.2.1 (by have := (fl2.2.2.1 hcap).2; omega) (Or.inr rfl) (fun i hi y hy => by
          rw [fl2.2.2.2 i hi] at hy; cases hy; exact ⟨_, List.mem_append_right _ (fhi i hi).1⟩) (xR u 2 0) (fl2.2.2.2 _ (by omega))) (cwV 1 hts gX2_install_Jx4a65c_remove_915e3 rfl rfl rfl (by decide +kernel) ⟨Nat.le_of_ble_eq_true rfl, Nat.le_of_ble_eq_true rfl⟩) ⟨zE_blind, z_recv hK (hW.1 0 _ rfl) rfl, (zE_pre hW hK hE hS)⟩ rfl rfl hl.1 rfl (lv_room (Nat.le_of_ble_eq_true rfl)) dX2_install_17 ⟨(by rw [hRc]; omega), (by rw [hRs]; omega)⟩) hS (fun u7 ra H locs hu hW hpr hS => ?_)
    have hlenD : (stD sg 0).2.2.2.2.length = sg.2.2.2.2.length - 1 := List.length_eraseIdx_of_lt (show 0 < sg.2.2.2.2.length by omega)
    have hW : Wd D S0 ((a 6, LO (xm u 2 + nI 1) (xe u 2) (stD sg 0).2.2.2.2.length) :: (LE cs (xe u 2) (xc u 2) (rmF (xg u 2) 0 sg.2.2.2.2.length) ++ ([] ++ (XR2 cs a u sg ++ Y)))) H := by
      rw [LE_1 hcap, hlenD]; exact hW
    have hW := XW.in2 (u := (xuD u (xm u 2 + nI 1) 0 sg.2.2.2.2.length)) (σ := stD sg 0) (G := []) hW
    have hFd : XF cs ea (xuD u (xm u 2 + nI 1) 0 sg.2.2.2.2.length) (stD sg 0) Y := hF.delH (show 0 < sg.2.2.2.2.length by omega)
    have hW : Wd D S0 (((a 0), .inr (3, [.ref (a 1), .int (nI sg.1.length), .ref (a 4), .ref (a 5), .ref (xe u 3), .ref (a 6), .ref (a 2), .ref (a 3)])) :: ((a 1), fa cs 400 (xF (xuD u (xm u 2 + nI 1) 0 sg.2.2.2.2.length) 0)) :: ((a 2), fa cs 200 (xF (xuD u (xm u 2 + nI 1) 0 sg.2.2.2.2.length) 1)) :: ((a 3), fa cs 12 (xF (xuD u (xm u 2 + nI 1) 0 sg.2.2.2.2.length) 2)) :: ((a 4), .inr (0, [.int (xm (xuD u (xm u 2 + nI 1) 0 sg.2.2.2.2.length) 0), .ref (xe (xuD u (xm u 2 + nI 1) 0 sg.2.2.2.2.length) 0), .int (nI sg.2.1.length)])) :: ((a 5), .inr (0, [.int (xm (xuD u (xm u 2 + nI 1) 0 sg.2.2.2.2.length) 1), .ref (xe (xuD u (xm u 2 + nI 1) 0 sg.2.2.2.2.length) 1), .int (nI sg.2.2.1.length)])) :: ((a 6), .inr (0, [.int (xm u 2 + nI 1), .ref (xe u 2), .int (nI ((stD sg 0).2.2.2.2.length))])) :: (XE cs (xuD u (xm u 2 + nI 1) 0 sg.2.2.2.2.length) ++ Y)) H := hW
    refine lv_pop hx hb dX2_install_20 rfl ?_
    refine lv_aload_n hx hb dX2_install_21 rfl (lv_at hl 0 rfl) ?_
    refine z_get (ci := 3) (v := .ref (a 6)) (C := RX2) (T := TX2) (N := 8) hx hb hts in3 hown hK (hW.1 0 _ rfl) rfl 5 (by decide) fl36 (fun _ h9 => h9) rfl dX2_install_22 ?_
    refine lv_aload_n hx hb dX2_install_25 rfl (lv_at hl 0 rfl) ?_
    refine z_get (ci := 3) (v := .ref (xe u 3)) (C := RX2) (T := TX2) (N := 8) hx hb hts in3 hown hK (hW.1 0 _ rfl) rfl 4 (by decide) fl32 (fun _ h9 => h9) rfl dX2_install_26 ?_
    have hW := XW.out2 (u := (xuD u (xm u 2 + nI 1) 0 sg.2.2.2.2.length)) (σ := (stD sg 0)) (Y := Y) hW
    refine z_cmI (va_runV (As := [.ref (xe u 3)]) (rest := []) ⟨hx, hb, hml, hown, hts⟩ (c_add l D cs S0 ea mi sa (XR2 cs a (xuD u (xm u 2 + nI 1) 0 sg.2.2.2.2.length) (stD sg 0) ++ Y) (a 6) (xe (xuD u (xm u 2 + nI 1) 0 sg.2.2.2.2.length) 2) (stD sg 0).2.2.2.2.length (xc (xuD u (xm u 2 + nI 1) 0 sg.2.2.2.2.length) 2) 2 (xm u 2 + nI 1) (xg (xuD u (xm u 2 + nI 1) 0 sg.2.2.2.2.length) 2) hFd.2.2.2.1.1 hFd.2.2.2.1.2.2.1 hFd.2.2.2.1.2.1 (by omega) (Or.inr rfl) (fun i hi => ⟨xR (xuD u (xm u 2 + nI 1) 0 sg.2.2.2.2.length) 2 i, _, hFd.2.2.2.1.2.2.2 i hi, List.mem_append_right _ (hFd.2.2.2.2.2.2.2.1 i hi).1⟩) (xe u 3) [.ref (xe u 4)] (List.mem_append_right _ fin.1)) (cwV 1 hts gX2_install_Jx4a65c_add_9ea2d rfl rfl rfl (by decide +kernel) ⟨Nat.le_of_ble_eq_true rfl, Nat.le_of_ble_eq_true rfl⟩) ⟨zE_blind, z_recv hK (hW.1 0 _ rfl) rfl, (zE_pre hW hK hE hS)⟩ rfl rfl hl.1 rfl (lv_room (Nat.le_of_ble_eq_true rfl)) dX2_install_29 ⟨(by rw [hRc]; omega), (by rw [hRs]; omega)⟩) hS (fun r u8 H locs hu hW hS => ?_)
    have hlen : (stH (stD sg 0) sg.2.2.2.1).2.2.2.2.length = (stD sg 0).2.2.2.2.length + 1 := List.length_append
    rw [← hlen] at hW
    have hW := XW.in2 (u := (xuA (xuD u (xm u 2 + nI 1) 0 sg.2.2.2.2.length) 2 (xm u 2 + nI 1 + nI 1) u8 (stD sg 0).2.2.2.2.length (xe u 3) (xe u 4))) (σ := (stH (stD sg 0) sg.2.2.2.1)) hW
    have hF3 := (hFd.addH (mc := xm u 2 + nI 1 + nI 1) (xs := sg.2.2.2.1) (r := xe u 3) (b := xe u 4) hu fin hok.2.2.2.1 (by omega)).more (Y' := u8.2.2.2 ++ Y) (fun q hq => List.mem_append_right _ hq)
    have hW : Wd D S0 (((a 0), .inr (3, [.ref (a 1), .int (nI sg.1.length), .ref (a 4), .ref (a 5), .ref (xe u 3), .ref (a 6), .ref (a 2), .ref (a 3)])) :: ((a 1), fa cs 400 (xF (xuA (xuD u (xm u 2 + nI 1) 0 sg.2.2.2.2.length) 2 (xm u 2 + nI 1 + nI 1) u8 (stD sg 0).2.2.2.2.length (xe u 3) (xe u 4)) 0)) :: ((a 2), fa cs 200 (xF (xuA (xuD u (xm u 2 + nI 1) 0 sg.2.2.2.2.length) 2 (xm u 2 + nI 1 + nI 1) u8 (stD sg 0).2.2.2.2.length (xe u 3) (xe u 4)) 1)) :: ((a 3), fa cs 12 (xF (xuA (xuD u (xm u 2 + nI 1) 0 sg.2.2.2.2.length) 2 (xm u 2 + nI 1 + nI 1) u8 (stD sg 0).2.2.2.2.length (xe u 3) (xe u 4)) 2)) :: ((a 4), .inr (0, [.int (xm (xuA (xuD u (xm u 2 + nI 1) 0 sg.2.2.2.2.length) 2 (xm u 2 + nI 1 + nI 1) u8 (stD sg 0).2.2.2.2.length (xe u 3) (xe u 4)) 0), .ref (xe (xuA (xuD u (xm u 2 + nI 1) 0 sg.2.2.2.2.length) 2 (xm u 2 + nI 1 + nI 1) u8 (stD sg 0).2.2.2.2.length (xe u 3) (xe u 4)) 0), .int (nI sg.2.1.length)])) :: ((a 5), .inr (0, [.int (xm (xuA (xuD u (xm u 2 + nI 1) 0 sg.2.2.2.2.length) 2 (xm u 2 + nI 1 + nI 1) u8 (stD sg 0).2.2.2.2.length (xe u 3) (xe u 4)) 1), .ref (xe (xuA (xuD u (xm u 2 + nI 1) 0 sg.2.2.2.2.length) 2 (xm u 2 + nI 1 + nI 1) u8 (stD sg 0).2.2.2.2.length (xe u 3) (xe u 4)) 1), .int (nI sg.2.2.1.length)])) :: ((a 6), .inr (0, [.int (xm u 2 + nI 1 + nI 1), .ref u8.1, .int (nI ((stH (stD sg 0) sg.2.2.2.1).2.2.2.2.length))])) :: (XE cs (xuA (xuD u (xm u 2 + nI 1) 0 sg.2.2.2.2.length) 2 (xm u 2 + nI 1 + nI 1) u8 (stD sg 0).2.2.2.2.length (xe u 3) (xe u 4)) ++ (u8.2.2.2 ++ Y))) H := hW
    refine lv_pop hx hb dX2_install_32 rfl ?_
    refine lv_aload_n hx hb dX2_install_33 rfl (lv_at hl 0 rfl) ?_
    refine lv_aload_n hx hb dX2_install_34 rfl (lv_at hl 1 rfl) ?_
    refine z_put (ty := (.object "DeltaUpdater$Row")) (ci := 3) (v := .ref r9) (C := RX2) (T := TX2) (N := 8) hx hb hts in3 tyX2 tyX2_ok nmX2 hown hK hW hS 0 rfl rfl 4 (by decide) fl32 (fun _ h9 => h9) rfl (by decide +kernel) rfl rfl (Nat.le_of_ble_eq_true rfl) dX2_install_35 (fun H locs hW hS => ?_)
    have hW : Wd D S0 (((a 0), .inr (3, [.ref (a 1), .int (nI sg.1.length), .ref (a 4), .ref (a 5), .ref r9, .ref (a 6), .ref (a 2), .ref (a 3)])) :: ((a 1), fa cs 400 (xF (xuA (xuD u (xm u 2 + nI 1) 0 sg.2.2.2.2.length) 2 (xm u 2 + nI 1 + nI 1) u8 (stD sg 0).2.2.2.2.length (xe u 3) (xe u 4)) 0)) :: ((a 2), fa cs 200 (xF (xuA (xuD u (xm u 2 + nI 1) 0 sg.2.2.2.2.length) 2 (xm u 2 + nI 1 + nI 1) u8 (stD sg 0).2.2.2.2.length (xe u 3) (xe u 4)) 1)) :: ((a 3), fa cs 12 (xF (xuA (xuD u (xm u 2 + nI 1) 0 sg.2.2.2.2.length) 2 (xm u 2 + nI 1 + nI 1) u8 (stD sg 0).2.2.2.2.length (xe u 3) (xe u 4)) 2)) :: ((a 4), .inr (0, [.int (xm (xuA (xuD u (xm u 2 + nI 1) 0 sg.2.2.2.2.length) 2 (xm u 2 + nI 1 + nI 1) u8 (stD sg 0).2.2.2.2.length (xe u 3) (xe u 4)) 0), .ref (xe (xuA (xuD u (xm u 2 + nI 1) 0 sg.2.2.2.2.length) 2 (xm u 2 + nI 1 + nI 1) u8 (stD sg 0).2.2.2.2.length (xe u 3) (xe u 4)) 0), .int (nI sg.2.1.length)])) :: ((a 5), .inr (0, [.int (xm (xuA (xuD u (xm u 2 + nI 1) 0 sg.2.2.2.2.length) 2 (xm u 2 + nI 1 + nI 1) u8 (stD sg 0).2.2.2.2.length (xe u 3) (xe u 4)) 1), .ref (xe (xuA (xuD u (xm u 2 + nI 1) 0 sg.2.2.2.2.length) 2 (xm u 2 + nI 1 + nI 1) u8 (stD sg 0).2.2.2.2.length (xe u 3) (xe u 4)) 1), .int (nI sg.2.2.1.length)])) :: ((a 6), .inr (0, [.int (xm u 2 + nI 1 + nI 1), .ref u8.1, .int (nI ((stH (stD sg 0) sg.2.2.2.1).2.2.2.2.length))])) :: (XE cs (xuA (xuD u (xm u 2 + nI 1) 0 sg.2.2.2.2.length) 2 (xm u 2 + nI 1 + nI 1) u8 (stD sg 0).2.2.2.2.length (xe u 3) (xe u 4)) ++ (u8.2.2.2 ++ Y))) H := hW
    refine lv_aload_n hx hb dX2_install_38 rfl (lv_at hl 0 rfl) ?_
    refine z_get (ci := 3) (v := .ref (a 6)) (C := RX2) (T := TX2) (N := 8) hx hb hts in3 hown hK (hW.1 0 _ rfl) rfl 5 (by decide) fl36 (fun _ h9 => h9) rfl dX2_install_39 ?_
    refine z_csV (As := []) (rest := []) ⟨hx, hb, hml, hown, hts⟩ (c_Jx4a65c_size_8abf5 l D cs (a 6) u8.1 (stH (stD sg 0) sg.2.2.2.1).2.2.2.2.length (xm u 2 + nI 1 + nI 1)) (cwV 0 hts gX2_install_Jx4a65c_size_8abf5 rfl rfl rfl (by decide +kernel) ⟨Nat.le_of_ble_eq_true rfl, Nat.le_of_ble_eq_true rfl⟩) (hW.1 6 _ rfl) rfl (hW.1 6 _ rfl) hK rfl hl.1 rfl (Nat.le_of_ble_eq_true rfl) dX2_install_42 ⟨(by rw [hRc]; omega), (by rw [hRs]; omega)⟩ (fun r hq9 => ?_)
    have hq9 : r = nI ((stH (stD sg 0) sg.2.2.2.1).2.2.2.2.length) := hq9
    subst hq9
    have hF4 := hF3.inst (hr9.more (Y' := u8.2.2.2 ++ Y) (fun q hq => List.mem_append_right _ hq)) hx9
    refine W.widen (k := 1) (n := 400) (by omega) (by omega) ?_
    exact W.iret (v := nI ((stH (stD sg 0) sg.2.2.2.1).2.2.2.2.length)) hx hb hr (fun t ht hW9 => ⟨⟨_, ((xuJ (xuA (xuD u (xm u 2 + nI 1) 0 sg.2.2.2.2.length) 2 (xm u 2 + nI 1 + nI 1) u8 (stD sg 0).2.2.2.2.length (xe u 3) (xe u 4)) r9 b9), u8.2.2.2), rfl, ⟨rfl, hF4⟩, (by show Wd D S0 _ _; rw [ht]; exact hW)⟩, hS.F ht⟩) (fun q9 h9 => hS.2.2 q9 h9) dX2_install_45

/-- the history before one more is put away -/
def hisA (hs : List BL) : List BL := if hs.length < 20 then hs else hs.eraseIdx 0
abbrev stI (σ : St) (xs : BL) : St := (σ.1, σ.2.1, σ.2.2.1, xs, hisA σ.2.2.2.2 ++ [σ.2.2.2.1])
theorem c_X2_install (l : Launch) (D : va_G) (cs : Nat → ClassId) (S0 : Nat) (ea mi : Nat) (sa : Nat → Nat) (Y : va_W) (a : Nat → Nat) (u : XU) (sg : St) (hF : XF cs ea u sg Y) (r9 b9 : Nat) (xs : BL) (hr9 : RM cs r9 b9 xs Y) (hx9 : rowOk xs) : Met l yX2_install wsX2_install ({ frames := 7, cells := 1, slots := 400, locals := 171 }) (zE [.ref (a 0), .ref r9] (fun H => Wd D S0 (XW cs a u sg Y) H) D cs S0 ea mi sa)
    (va_Qi (fun r (v : XU × va_W) => r = nI (stI sg xs).2.2.2.2.length ∧ XF cs ea v.1 (stI sg xs) (v.2 ++ Y)) (fun v t => Wd D S0 (XW cs a v.1 (stI sg xs) (v.2 ++ Y)) t.heap) (SA S0)) 1 400 (SA S0) := by
  unfold stI hisA
  by_cases h : sg.2.2.2.2.length < 20
  · rw [if_pos h]
    exact z_met (c_X2_install_a l D cs S0 ea mi sa Y a u sg hF r9 b9 xs hr9 hx9 h) ⟨by decide, by decide, by decide, by decide⟩ ⟨Nat.le_refl _, Nat.le_refl _⟩ (fun _ _ h9 => h9) (fun _ _ _ _ _ h9 => h9)
  · rw [if_neg h]
    exact z_met (c_X2_install_b l D cs S0 ea mi sa Y a u sg hF r9 b9 xs hr9 hx9 (Nat.le_of_not_lt h)) ⟨by decide, by decide, by decide, by decide⟩ ⟨Nat.le_refl _, Nat.le_refl _⟩ (fun _ _ h9 => h9) (fun _ _ _ _ _ h9 => h9)

