/-! collisions -/
def colP (xs : BL) (size i j : Nat) : Bool := decide (nI (wsum (bv xs) (j * size) size) = nI (wsum (bv xs) (i * size) size)) && !(stB (bb xs) (bb xs) (j * size) (i * size) size)
def colN (xs : BL) (size : Nat) : Nat → Nat
  | 0 => 0
  | i + 1 => colN xs size i + ct (colP xs size i) i
theorem colP_f1 {xs : BL} {size i j : Nat} (h : ¬ nI (wsum (bv xs) (j * size) size) = nI (wsum (bv xs) (i * size) size)) : colP xs size i j = false := by
  unfold colP; rw [decide_eq_false h]; rfl
theorem colP_f2 {xs : BL} {size i j : Nat} (h : stB (bb xs) (bb xs) (j * size) (i * size) size = true) : colP xs size i j = false := by
  unfold colP; rw [h]; exact Bool.and_false _
theorem colP_t {xs : BL} {size i j : Nat} (h : nI (wsum (bv xs) (j * size) size) = nI (wsum (bv xs) (i * size) size)) (h2 : stB (bb xs) (bb xs) (j * size) (i * size) size = false) : colP xs size i j = true := by
  unfold colP; rw [decide_eq_true h, h2]; rfl

set_option maxHeartbeats 4000000 in
set_option maxRecDepth 100000 in
theorem c_X2_collisions (l : Launch) (D : va_G) (cs : Nat → ClassId) (S0 : Nat) (ea mi : Nat) (sa : Nat → Nat) (Y : va_W) (a : Nat → Nat) (u : XU) (sg : St) (hF : XF cs ea u sg Y) (v9 size : Nat) (hv9 : v9 < sg.2.1.length) (h2 : 2 ≤ size) (h3 : size ≤ 32) : Met l yX2_collisions wsX2_collisions ({ frames := 4, cells := 0, slots := 0, locals := 85 }) (zE [.ref (a 0), .int (nI v9), .int (nI size)] (fun H => Wd D S0 (XW cs a u sg Y) H) D cs S0 ea mi sa) (va_Qi (fun r (_ : Nat → Int32) => r = nI (colN (vsN sg.2.1 v9) size ((vsN sg.2.1 v9).length / size))) (fun v t => Wd D S0 (XW cs a (xuF u 1 v) sg Y) t.heap) (SA S0)) 0 0 (SA S0) := by
  refine Met.ofW (cc := cX2_collisions) (maxL := 8) (ret := (some .int)) (by decide) rfl ?_
  intro p e s m args below meth c s₁ B hml hv
  obtain ⟨rfl, hW, hK, hE⟩ := hv
  have hx := B.exec
  have hb := B.bytes
  have hr := B.returns
  have hts := atoms_spec (ws := wsX2_collisions) B.pre
  have hown : s.vm.findClass RX2 = some m.cls := findClass_of_methodNamed B.named
  have hlocks := B.notSynchronized
  have hRc : (headSpec wsX2_collisions ({ frames := 4, cells := 0, slots := 0, locals := 85 })).room.cells = 0 := rfl
  have hRs : (headSpec wsX2_collisions ({ frames := 4, cells := 0, slots := 0, locals := 85 })).room.slots = 0 := rfl
  have fl39 := hts (.fieldLink RX2 39 "DeltaUpdater" "blockSums" "[I") (by decide +kernel)
  have fl72 := hts (.fieldLink RX2 72 "DeltaUpdater$Row" "bytes" "[I") (by decide +kernel)
  have in2 : ∀ w ∈ u_ws RX1 TX1 1, w ∈ wsX2_collisions := by decide +kernel
  have in3 : ∀ w ∈ u_ws RX2 TX2 8, w ∈ wsX2_collisions := by decide +kernel
  have hW : Wd D S0 (XW cs a u sg Y) s.heap := hW
  have hS0 : S0 ≤ s.heap.size := hW.2.2
  have hS : va_S (SA S0) s.heap s.heap [] := va_S.rf
  have hl := lv_entry ([.ref (a 0), .int (nI v9), .int (nI size)]) (n := 8) (Nat.le_of_ble_eq_true rfl)
  rw [lg_entry_eq]
  generalize (lg_sl ([.ref (a 0), .int (nI v9), .int (nI size)]) ++ List.replicate (8 - (lg_sl ([.ref (a 0), .int (nI v9), .int (nI size)])).length) Slot.unset).toArray = ls at hl ⊢
  have hl : lv_has ls 8 [(0, .ref (a 0)), (1, .int (nI v9)), (2, .int (nI size))] := hl
  obtain ⟨fbf, fl0, fl1, fl2, frw, fpt, fin, fhi, hok⟩ := id hF
  obtain ⟨hx0, hbf, hbc, hls, hlm, hlh, hrw, hpt, hin, hhr, -⟩ := XH.of (Y := Y) hW hF
  have hbl := hok.1.1
  have hnv := hok.2.1.1
  have hnp := hok.2.2.1.1
  have hnh := hok.2.2.2.2.1
  have hlen9 := (hok.2.1.2 v9 hv9).1
  have hdv := Nat.div_le_self (vsN sg.2.1 v9).length size
  have hdv2 : (vsN sg.2.1 v9).length / size ≤ 200 := by
    have g1 : (vsN sg.2.1 v9).length / size ≤ (vsN sg.2.1 v9).length / 2 := Nat.div_le_div_left h2 (by decide)
    omega
  refine lv_aload_n hx hb dX2_collisions_0 rfl (lv_at hl 0 rfl) ?_
  refine lv_iload_n hx hb dX2_collisions_1 rfl (lv_at hl 1 rfl) ?_
  refine z_ceRV (As := [.int (nI v9)]) (rest := []) ⟨hx, hb, hml, hown, hts⟩ (c_X2_rowOf l D cs S0 ea mi sa a u sg v9 hv9) (cwV 1 hts gX2_collisions_X2_rowOf rfl rfl rfl (by decide +kernel) ⟨Nat.le_of_ble_eq_true rfl, Nat.le_of_ble_eq_true rfl⟩) (hW.1 0 _ rfl) rfl ⟨hx0, hbf, hbc, hls, hlm, hlh, hrw, hpt, hin, hhr, hok⟩ hK hE hS rfl hl.1 rfl (Nat.le_of_ble_eq_true rfl) dX2_collisions_2 ⟨(by rw [hRc]; omega), (by rw [hRs]; omega)⟩ (fun r hq9 => ?_)
  have hq9 : r = (xR u 0 v9) := hq9
  subst hq9
  refine lv_astore_n (lv' := [(3, .ref (xR u 0 v9)), (0, .ref (a 0)), (1, .int (nI v9)), (2, .int (nI size))]) hx hb dX2_collisions_5 rfl hl (by decide) rfl (fun ls hl => ?_)
  refine lv_iload_n hx hb dX2_collisions_6 rfl (lv_at hl 3 rfl) ?_
  refine z_csSv (As := [.int (nI size)]) (rest := []) ⟨hx, hb, hml, hown, hts⟩ (c_X2_checkSize l D cs size h2 h3) (va_cwS 1 hts gX2_collisions_X2_checkSize rfl rfl rfl (by decide +kernel) ⟨Nat.le_of_ble_eq_true rfl, Nat.le_of_ble_eq_true rfl⟩) trivial hK rfl hl.1 rfl (Nat.le_of_ble_eq_true rfl) dX2_collisions_7 ⟨(by rw [hRc]; omega), (by rw [hRs]; omega)⟩ ?_
  refine lv_aload_n hx hb dX2_collisions_10 rfl (lv_at hl 0 rfl) ?_
  refine z_get (ci := 2) (v := .ref (xR u 1 v9)) (C := RX1) (T := TX1) (N := 1) hx hb hts in2 hown hK (hrw v9 (by omega)).1 rfl 0 (by decide) fl72 (fun _ h9 => h9) rfl dX2_collisions_11 ?_
  refine z_alen (n := ((vsN sg.2.1 v9).length)) hx hb hK (hrw v9 (by omega)).2 dX2_collisions_14 ?_
  refine lv_iload_n hx hb dX2_collisions_15 rfl (lv_at hl 3 rfl) ?_
  refine lv_idiv hx hb dX2_collisions_16 (nI_ne0 (by omega) (by omega)) ?_
  refine zti (pk_div (by omega) (by omega) (by omega)) (y := nI (((vsN sg.2.1 v9).length) / size)) ?_
  refine lv_istore (lv' := [(4, .int (nI (((vsN sg.2.1 v9).length) / size))), (3, .ref (xR u 0 v9)), (0, .ref (a 0)), (1, .int (nI v9)), (2, .int (nI size))]) hx hb dX2_collisions_17 hl (by decide) rfl (fun ls hl => ?_)
  refine lv_iconst (v := nI 0) hx hb dX2_collisions_19 (by decide) ?_
  refine lv_istore (lv' := [(5, .int (nI 0)), (4, .int (nI (((vsN sg.2.1 v9).length) / size))), (3, .ref (xR u 0 v9)), (0, .ref (a 0)), (1, .int (nI v9)), (2, .int (nI size))]) hx hb dX2_collisions_20 hl (by decide) rfl (fun ls hl => ?_)
  refine lv_iconst (v := nI 0) hx hb dX2_collisions_22 (by decide) ?_
  refine lv_istore (lv' := [(6, .int (nI 0)), (5, .int (nI 0)), (4, .int (nI (((vsN sg.2.1 v9).length) / size))), (3, .ref (xR u 0 v9)), (0, .ref (a 0)), (1, .int (nI v9)), (2, .int (nI size))]) hx hb dX2_collisions_23 hl (by decide) rfl (fun ls hl => ?_)
  refine z_loopM (σ := Nat × (Nat → Int32)) (fun q9 => (vsN sg.2.1 v9).length / size - q9.1) (fun q9 ls H locs => lv_has ls 8 [(6, .int (nI q9.1)), (5, .int (nI (colN (vsN sg.2.1 v9) size q9.1))), (0, .ref (a 0)), (1, .int (nI v9)), (2, .int (nI size)), (3, .ref (xR u 0 v9)), (4, .int (nI ((vsN sg.2.1 v9).length / size)))] ∧ Wd D S0 (((a 0), .inr (3, [.ref (a 1), .int (nI sg.1.length), .ref (a 4), .ref (a 5), .ref (xe u 3), .ref (a 6), .ref (a 2), .ref (a 3)])) :: ((a 1), fa cs 400 (xF u 0)) :: ((a 2), fa cs 200 q9.2) :: ((a 3), fa cs 12 (xF u 2)) :: ((a 4), .inr (0, [.int (xm u 0), .ref (xe u 0), .int (nI sg.2.1.length)])) :: ((a 5), .inr (0, [.int (xm u 1), .ref (xe u 1), .int (nI sg.2.2.1.length)])) :: ((a 6), .inr (0, [.int (xm u 2), .ref (xe u 2), .int (nI sg.2.2.2.2.length)])) :: (XE cs u ++ Y)) H ∧ va_S (SA S0) s.heap H locs ∧ (q9.1 ≤ (vsN sg.2.1 v9).length / size) ∧ (∀ z, z < q9.1 → q9.2 z = (fun z => nI (wsum (bv (vsN sg.2.1 v9)) (z * size) size)) z)) (0, (xF u 1)) ⟨lv_sub hl [0, 1, 4, 5, 6, 3, 2] rfl, hW, hS, (show 0 ≤ (vsN sg.2.1 v9).length / size from Nat.zero_le _), (show ∀ z, z < 0 → (xF u 1) z = (fun z => nI (wsum (bv (vsN sg.2.1 v9)) (z * size) size)) z from fun i hi => absurd hi (Nat.not_lt_zero i))⟩ (fun dd25 ih25 y9 ls H locs hd9 hI9 => ?_)
  obtain ⟨k, g8⟩ := y9
  have hd25 : (vsN sg.2.1 v9).length / size - k = dd25 := hd9
  have hI9 : lv_has ls 8 [(6, .int (nI k)), (5, .int (nI (colN (vsN sg.2.1 v9) size k))), (0, .ref (a 0)), (1, .int (nI v9)), (2, .int (nI size)), (3, .ref (xR u 0 v9)), (4, .int (nI ((vsN sg.2.1 v9).length / size)))] ∧ Wd D S0 (((a 0), .inr (3, [.ref (a 1), .int (nI sg.1.length), .ref (a 4), .ref (a 5), .ref (xe u 3), .ref (a 6), .ref (a 2), .ref (a 3)])) :: ((a 1), fa cs 400 (xF u 0)) :: ((a 2), fa cs 200 g8) :: ((a 3), fa cs 12 (xF u 2)) :: ((a 4), .inr (0, [.int (xm u 0), .ref (xe u 0), .int (nI sg.2.1.length)])) :: ((a 5), .inr (0, [.int (xm u 1), .ref (xe u 1), .int (nI sg.2.2.1.length)])) :: ((a 6), .inr (0, [.int (xm u 2), .ref (xe u 2), .int (nI sg.2.2.2.2.length)])) :: (XE cs u ++ Y)) H ∧ va_S (SA S0) s.heap H locs ∧ (k ≤ (vsN sg.2.1 v9).length / size) ∧ (∀ z, z < k → g8 z = (fun z => nI (wsum (bv (vsN sg.2.1 v9)) (z * size) size)) z) := hI9
  obtain ⟨hl, hW, hS, hk, hg⟩ := hI9
  refine lv_iload hx hb dX2_collisions_25 (lv_at hl 0 rfl) ?_
  refine lv_iload hx hb dX2_collisions_27 (lv_at hl 6 rfl) ?_
  refine z_icmp_ge (tgt := 107) hx hb (by omega) (by omega) dX2_collisions_29 (by decide) (fun hc29 => ?_) (fun hc29 => ?_)
  · skip
    have hc29 : (vsN sg.2.1 v9).length / size ≤ k := hc29
    have e9 : k = (vsN sg.2.1 v9).length / size := by omega
    rw [e9] at hl
    refine lv_iload hx hb dX2_collisions_107 (lv_at hl 1 rfl) ?_
    refine W.widen (k := 0) (n := 0) (by omega) (by omega) ?_
    exact W.iret (v := nI (colN (vsN sg.2.1 v9) size ((vsN sg.2.1 v9).length / size))) hx hb hr (fun t ht hW9 => ⟨⟨_, g8, rfl, rfl, (by show Wd D S0 _ _; rw [ht]; exact hW)⟩, hS.F ht⟩) (fun q9 h9 => hS.2.2 q9 h9) dX2_collisions_109
  · skip
    have hc29 : k < (vsN sg.2.1 v9).length / size := hc29
    refine lv_aload_n hx hb dX2_collisions_32 rfl (lv_at hl 2 rfl) ?_
    refine z_get (ci := 3) (v := .ref (a 2)) (C := RX2) (T := TX2) (N := 8) hx hb hts in3 hown hK (hW.1 0 _ rfl) rfl 6 (by decide) fl39 (fun _ h9 => h9) rfl dX2_collisions_33 ?_
    refine lv_iload hx hb dX2_collisions_36 (lv_at hl 0 rfl) ?_
    refine lv_aload_n hx hb dX2_collisions_38 rfl (lv_at hl 5 rfl) ?_
    refine lv_iload hx hb dX2_collisions_39 (lv_at hl 0 rfl) ?_
    refine lv_iload_n hx hb dX2_collisions_41 rfl (lv_at hl 4 rfl) ?_
    refine lv_imul hx hb dX2_collisions_42 ?_
    refine zti (pk_mul _ _) (y := nI (k * size)) ?_
    refine lv_iload_n hx hb dX2_collisions_43 rfl (lv_at hl 4 rfl) ?_
    obtain ⟨hx0, hbf, hbc, hls, hlm, hlh, hrw, hpt, hin, hhr, -⟩ := XH.of (D := D) (cs := cs) (a := a) (σ := sg) (Y := Y) (u := xuF u 1 g8) hW hF.sums
    refine z_csV (As := [.int (nI (k * size)), .int (nI size)]) (rest := [.int (nI k), .ref (a 2)]) ⟨hx, hb, hml, hown, hts⟩ (c_X1_sumOf l D cs (xR u 0 v9) (xR u 1 v9) (vsN sg.2.1 v9).length (bv (vsN sg.2.1 v9)) (hok.2.1.2 v9 hv9).2 (k * size) size (z_blk hc29) (by omega) (by omega)) (cwV 2 hts gX2_collisions_X1_sumOf rfl rfl rfl (by decide +kernel) ⟨Nat.le_of_ble_eq_true rfl, Nat.le_of_ble_eq_true rfl⟩) (hrw v9 (by omega)).1 rfl ⟨(hrw v9 hv9).1, (hrw v9 hv9).2⟩ hK rfl hl.1 rfl (Nat.le_of_ble_eq_true rfl) dX2_collisions_44 ⟨(by rw [hRc]; omega), (by rw [hRs]; omega)⟩ (fun r hq9 => ?_)
    have hq9 : r = nI (wsum (bv (vsN sg.2.1 v9)) (k * size) size) := hq9
    subst hq9
    refine z_iast (k := k) (x := nI (wsum (bv (vsN sg.2.1 v9)) (k * size) size)) (n := 200) (f := g8) hx hb hK hW hS 2 rfl (by omega) (by omega) dX2_collisions_47 (fun H locs hW hS => ?_)
    have hW : Wd D S0 (((a 0), .inr (3, [.ref (a 1), .int (nI sg.1.length), .ref (a 4), .ref (a 5), .ref (xe u 3), .ref (a 6), .ref (a 2), .ref (a 3)])) :: ((a 1), fa cs 400 (xF u 0)) :: ((a 2), fa cs 200 (upd g8 k (nI (wsum (bv (vsN sg.2.1 v9)) (k * size) size)))) :: ((a 3), fa cs 12 (xF u 2)) :: ((a 4), .inr (0, [.int (xm u 0), .ref (xe u 0), .int (nI sg.2.1.length)])) :: ((a 5), .inr (0, [.int (xm u 1), .ref (xe u 1), .int (nI sg.2.2.1.length)])) :: ((a 6), .inr (0, [.int (xm u 2), .ref (xe u 2), .int (nI sg.2.2.2.2.length)])) :: (XE cs u ++ Y)) H := hW
    refine lv_iconst (v := nI 0) hx hb dX2_collisions_48 (by decide) ?_
    refine lv_istore (lv' := [(7, .int (nI 0)), (6, .int (nI k)), (5, .int (nI (colN (vsN sg.2.1 v9) size k))), (0, .ref (a 0)), (1, .int (nI v9)), (2, .int (nI size)), (3, .ref (xR u 0 v9)), (4, .int (nI ((vsN sg.2.1 v9).length / size)))]) hx hb dX2_collisions_49 hl (by decide) rfl (fun ls hl => ?_)
    have hg2 : ∀ z, z < k + 1 → (upd g8 k (nI (wsum (bv (vsN sg.2.1 v9)) (k * size) size))) z = (fun z => nI (wsum (bv (vsN sg.2.1 v9)) (z * size) size)) z := upd_ok hg rfl
    refine z_loopM (σ := Nat) (fun q9 => k - q9) (fun q9 ls H locs => lv_has ls 8 [(7, .int (nI q9)), (6, .int (nI k)), (5, .int (nI ((colN (vsN sg.2.1 v9) size k) + ct (colP (vsN sg.2.1 v9) size k) q9))), (0, .ref (a 0)), (1, .int (nI v9)), (2, .int (nI size)), (3, .ref (xR u 0 v9)), (4, .int (nI ((vsN sg.2.1 v9).length / size)))] ∧ Wd D S0 (((a 0), .inr (3, [.ref (a 1), .int (nI sg.1.length), .ref (a 4), .ref (a 5), .ref (xe u 3), .ref (a 6), .ref (a 2), .ref (a 3)])) :: ((a 1), fa cs 400 (xF u 0)) :: ((a 2), fa cs 200 (upd g8 k (nI (wsum (bv (vsN sg.2.1 v9)) (k * size) size)))) :: ((a 3), fa cs 12 (xF u 2)) :: ((a 4), .inr (0, [.int (xm u 0), .ref (xe u 0), .int (nI sg.2.1.length)])) :: ((a 5), .inr (0, [.int (xm u 1), .ref (xe u 1), .int (nI sg.2.2.1.length)])) :: ((a 6), .inr (0, [.int (xm u 2), .ref (xe u 2), .int (nI sg.2.2.2.2.length)])) :: (XE cs u ++ Y)) H ∧ va_S (SA S0) s.heap H locs ∧ (q9 ≤ k)) 0 ⟨lv_sub hl [0, 1, 2, 3, 4, 5, 6, 7] rfl, hW, hS, (show 0 ≤ k from Nat.zero_le _)⟩ (fun dd51 ih51 y9 ls H locs hd9 hI9 => ?_)
    obtain ⟨jq, rfl⟩ : ∃ z, z = y9 := ⟨_, rfl⟩
    have hd51 : k - jq = dd51 := hd9
    have hI9 : lv_has ls 8 [(7, .int (nI jq)), (6, .int (nI k)), (5, .int (nI ((colN (vsN sg.2.1 v9) size k) + ct (colP (vsN sg.2.1 v9) size k) jq))), (0, .ref (a 0)), (1, .int (nI v9)), (2, .int (nI size)), (3, .ref (xR u 0 v9)), (4, .int (nI ((vsN sg.2.1 v9).length / size)))] ∧ Wd D S0 (((a 0), .inr (3, [.ref (a 1), .int (nI sg.1.length), .ref (a 4), .ref (a 5), .ref (xe u 3), .ref (a 6), .ref (a 2), .ref (a 3)])) :: ((a 1), fa cs 400 (xF u 0)) :: ((a 2), fa cs 200 (upd g8 k (nI (wsum (bv (vsN sg.2.1 v9)) (k * size) size)))) :: ((a 3), fa cs 12 (xF u 2)) :: ((a 4), .inr (0, [.int (xm u 0), .ref (xe u 0), .int (nI sg.2.1.length)])) :: ((a 5), .inr (0, [.int (xm u 1), .ref (xe u 1), .int (nI sg.2.2.1.length)])) :: ((a 6), .inr (0, [.int (xm u 2), .ref (xe u 2), .int (nI sg.2.2.2.2.length)])) :: (XE cs u ++ Y)) H ∧ va_S (SA S0) s.heap H locs ∧ (jq ≤ k) := hI9
    obtain ⟨hl, hW, hS, hj9⟩ := hI9
    refine lv_iload hx hb dX2_collisions_51 (lv_at hl 0 rfl) ?_
    refine lv_iload hx hb dX2_collisions_53 (lv_at hl 1 rfl) ?_
    refine z_icmp_ge (tgt := 101) hx hb (by omega) (by omega) dX2_collisions_55 (by decide) (fun hc55 => ?_) (fun hc55 => ?_)
    · skip
      have hc55 : k ≤ jq := hc55
      have e9 : jq = k := by omega
      rw [e9] at hl
      refine lv_iinc (v := nI (k + 1)) (lv' := [(6, .int (nI (k + 1))), (7, .int (nI k)), (5, .int (nI ((colN (vsN sg.2.1 v9) size k) + ct (colP (vsN sg.2.1 v9) size k) k))), (0, .ref (a 0)), (1, .int (nI v9)), (2, .int (nI size)), (3, .ref (xR u 0 v9)), (4, .int (nI ((vsN sg.2.1 v9).length / size)))]) hx hb dX2_collisions_101 hl (k := 1) rfl (z_inc _) (by decide) rfl (fun ls hl => ?_)
      refine lv_goto (tgt := 25) hx hb dX2_collisions_104 (by decide) ?_
      exact ih25 ((k + 1), (upd g8 k (nI (wsum (bv (vsN sg.2.1 v9)) (k * size) size)))) ls H locs (show (vsN sg.2.1 v9).length / size - (k + 1) < dd25 by omega) ⟨lv_sub hl [0, 2, 3, 4, 5, 6, 7] rfl, hW, hS, (show (k + 1) ≤ (vsN sg.2.1 v9).length / size from by omega), (show ∀ z, z < (k + 1) → (upd g8 k (nI (wsum (bv (vsN sg.2.1 v9)) (k * size) size))) z = (fun z => nI (wsum (bv (vsN sg.2.1 v9)) (z * size) size)) z from hg2)⟩
    · skip
      have hc55 : jq < k := hc55
      refine lv_aload_n hx hb dX2_collisions_58 rfl (lv_at hl 3 rfl) ?_
      refine z_get (ci := 3) (v := .ref (a 2)) (C := RX2) (T := TX2) (N := 8) hx hb hts in3 hown hK (hW.1 0 _ rfl) rfl 6 (by decide) fl39 (fun _ h9 => h9) rfl dX2_collisions_59 ?_
      refine lv_iload hx hb dX2_collisions_62 (lv_at hl 0 rfl) ?_
      refine z_iald (k := jq) (f := (upd g8 k (nI (wsum (bv (vsN sg.2.1 v9)) (k * size) size)))) hx hb hK (hW.1 2 _ rfl) (by omega) (by omega) dX2_collisions_64 ?_
      refine zti (hg2 jq (by omega)) (y := nI (wsum (bv (vsN sg.2.1 v9)) (jq * size) size)) ?_
      refine lv_aload_n hx hb dX2_collisions_65 rfl (lv_at hl 3 rfl) ?_
      refine z_get (ci := 3) (v := .ref (a 2)) (C := RX2) (T := TX2) (N := 8) hx hb hts in3 hown hK (hW.1 0 _ rfl) rfl 6 (by decide) fl39 (fun _ h9 => h9) rfl dX2_collisions_66 ?_
      refine lv_iload hx hb dX2_collisions_69 (lv_at hl 1 rfl) ?_
      refine z_iald (k := k) (f := (upd g8 k (nI (wsum (bv (vsN sg.2.1 v9)) (k * size) size)))) hx hb hK (hW.1 2 _ rfl) (by omega) (by omega) dX2_collisions_71 ?_
      refine zti (hg2 k (by omega)) (y := nI (wsum (bv (vsN sg.2.1 v9)) (k * size) size)) ?_
      refine lv_icmp_ne (tgt := 95) hx hb dX2_collisions_72 (by decide) (fun hc72 => ?_) (fun hc72 => ?_)
      · skip
        have hc72 : ¬ (nI (wsum (bv (vsN sg.2.1 v9)) (jq * size) size)) = (nI (wsum (bv (vsN sg.2.1 v9)) (k * size) size)) := hc72
        have e9 : ct (colP (vsN sg.2.1 v9) size k) (jq + 1) = ct (colP (vsN sg.2.1 v9) size k) jq := ct_f (colP_f1 hc72)
        rw [← e9] at hl
        have hl : lv_has ls 8 [(7, .int (nI jq)), (6, .int (nI k)), (5, .int (nI ((colN (vsN sg.2.1 v9) size k) + ct (colP (vsN sg.2.1 v9) size k) (jq + 1)))), (0, .ref (a 0)), (1, .int (nI v9)), (2, .int (nI size)), (3, .ref (xR u 0 v9)), (4, .int (nI ((vsN sg.2.1 v9).length / size)))] := hl
        refine lv_iinc (v := nI (jq + 1)) (lv' := [(7, .int (nI (jq + 1))), (6, .int (nI k)), (5, .int (nI ((colN (vsN sg.2.1 v9) size k) + ct (colP (vsN sg.2.1 v9) size k) (jq + 1)))), (0, .ref (a 0)), (1, .int (nI v9)), (2, .int (nI size)), (3, .ref (xR u 0 v9)), (4, .int (nI ((vsN sg.2.1 v9).length / size)))]) hx hb dX2_collisions_95 hl (k := 0) rfl (z_inc _) (by decide) rfl (fun ls hl => ?_)
        refine lv_goto (tgt := 51) hx hb dX2_collisions_98 (by decide) ?_
        exact ih51 (jq + 1) ls H locs (show k - (jq + 1) < dd51 by omega) ⟨lv_sub hl [0, 1, 2, 3, 4, 5, 6, 7] rfl, hW, hS, (show (jq + 1) ≤ k from by omega)⟩
      · skip
        have hc72 : (nI (wsum (bv (vsN sg.2.1 v9)) (jq * size) size)) = (nI (wsum (bv (vsN sg.2.1 v9)) (k * size) size)) := hc72
        refine lv_aload_n hx hb dX2_collisions_75 rfl (lv_at hl 6 rfl) ?_
        refine lv_iload hx hb dX2_collisions_76 (lv_at hl 0 rfl) ?_
        refine lv_iload_n hx hb dX2_collisions_78 rfl (lv_at hl 5 rfl) ?_
        refine lv_imul hx hb dX2_collisions_79 ?_
        refine zti (pk_mul _ _) (y := nI (jq * size)) ?_
        refine lv_aload_n hx hb dX2_collisions_80 rfl (lv_at hl 6 rfl) ?_
        refine lv_iload hx hb dX2_collisions_81 (lv_at hl 1 rfl) ?_
        refine lv_iload_n hx hb dX2_collisions_83 rfl (lv_at hl 5 rfl) ?_
        refine lv_imul hx hb dX2_collisions_84 ?_
        refine zti (pk_mul _ _) (y := nI (k * size)) ?_
        refine lv_iload_n hx hb dX2_collisions_85 rfl (lv_at hl 5 rfl) ?_
        obtain ⟨hx0, hbf, hbc, hls, hlm, hlh, hrw, hpt, hin, hhr, -⟩ := XH.of (D := D) (cs := cs) (a := a) (σ := sg) (Y := Y) (u := xuF u 1 (upd g8 k (nI (wsum (bv (vsN sg.2.1 v9)) (k * size) size)))) hW hF.sums
        refine z_csV (As := [.int (nI (jq * size)), .ref (xR u 0 v9), .int (nI (k * size)), .int (nI size)]) (rest := []) ⟨hx, hb, hml, hown, hts⟩ (c_X1_hasStretch l D cs (xR u 0 v9) (xR u 1 v9) (xR u 0 v9) (xR u 1 v9) (vsN sg.2.1 v9).length (vsN sg.2.1 v9).length (bb (vsN sg.2.1 v9)) (bb (vsN sg.2.1 v9)) (jq * size) (k * size) size (z_blk (show jq < (vsN sg.2.1 v9).length / size by omega)) (z_blk hc29) (by omega) (by omega)) (cwV 4 hts gX2_collisions_X1_hasStretch rfl rfl rfl (by decide +kernel) ⟨Nat.le_of_ble_eq_true rfl, Nat.le_of_ble_eq_true rfl⟩) (hrw v9 (by omega)).1 rfl ⟨(hrw v9 hv9).1, (hrw v9 hv9).2, (hrw v9 hv9).1, (hrw v9 hv9).2⟩ hK rfl hl.1 rfl (Nat.le_of_ble_eq_true rfl) dX2_collisions_86 ⟨(by rw [hRc]; omega), (by rw [hRs]; omega)⟩ (fun r hq9 => ?_)
        have hq9 : r = bI (stB (bb (vsN sg.2.1 v9)) (bb (vsN sg.2.1 v9)) (jq * size) (k * size) size) := hq9
        subst hq9
        refine z_ifb_ne (tgt := 95) hx hb dX2_collisions_89 (by decide) (fun hc89 => ?_) (fun hc89 => ?_)
        · skip
          have hc89 : (stB (bb (vsN sg.2.1 v9)) (bb (vsN sg.2.1 v9)) (jq * size) (k * size) size) = true := hc89
          have e9 : ct (colP (vsN sg.2.1 v9) size k) (jq + 1) = ct (colP (vsN sg.2.1 v9) size k) jq := ct_f (colP_f2 hc89)
          rw [← e9] at hl
          have hl : lv_has ls 8 [(7, .int (nI jq)), (6, .int (nI k)), (5, .int (nI ((colN (vsN sg.2.1 v9) size k) + ct (colP (vsN sg.2.1 v9) size k) (jq + 1)))), (0, .ref (a 0)), (1, .int (nI v9)), (2, .int (nI size)), (3, .ref (xR u 0 v9)), (4, .int (nI ((vsN sg.2.1 v9).length / size)))] := hl
          refine lv_iinc (v := nI (jq + 1)) (lv' := [(7, .int (nI (jq + 1))), (6, .int (nI k)), (5, .int (nI ((colN (vsN sg.2.1 v9) size k) + ct (colP (vsN sg.2.1 v9) size k) (jq + 1)))), (0, .ref (a 0)), (1, .int (nI v9)), (2, .int (nI size)), (3, .ref (xR u 0 v9)), (4, .int (nI ((vsN sg.2.1 v9).length / size)))]) hx hb dX2_collisions_95 hl (k := 0) rfl (z_inc _) (by decide) rfl (fun ls hl => ?_)
          refine lv_goto (tgt := 51) hx hb dX2_collisions_98 (by decide) ?_
          exact ih51 (jq + 1) ls H locs (show k - (jq + 1) < dd51 by omega) ⟨lv_sub hl [0, 1, 2, 3, 4, 5, 6, 7] rfl, hW, hS, (show (jq + 1) ≤ k from by omega)⟩
        · skip
          have hc89 : (stB (bb (vsN sg.2.1 v9)) (bb (vsN sg.2.1 v9)) (jq * size) (k * size) size) = false := hc89
          have e9 : ct (colP (vsN sg.2.1 v9) size k) (jq + 1) = ct (colP (vsN sg.2.1 v9) size k) jq + 1 := ct_t (colP_t hc72 hc89)
          refine lv_iinc (v := nI ((colN (vsN sg.2.1 v9) size k) + ct (colP (vsN sg.2.1 v9) size k) jq + 1)) (lv' := [(5, .int (nI ((colN (vsN sg.2.1 v9) size k) + ct (colP (vsN sg.2.1 v9) size k) jq + 1))), (7, .int (nI jq)), (6, .int (nI k)), (0, .ref (a 0)), (1, .int (nI v9)), (2, .int (nI size)), (3, .ref (xR u 0 v9)), (4, .int (nI ((vsN sg.2.1 v9).length / size)))]) hx hb dX2_collisions_92 hl (k := 2) rfl (z_inc _) (by decide) rfl (fun ls hl => ?_)
          rw [show (colN (vsN sg.2.1 v9) size k) + ct (colP (vsN sg.2.1 v9) size k) jq + 1 = (colN (vsN sg.2.1 v9) size k) + ct (colP (vsN sg.2.1 v9) size k) (jq + 1) by rw [e9]; omega] at hl
          have hl : lv_has ls 8 [(5, .int (nI ((colN (vsN sg.2.1 v9) size k) + ct (colP (vsN sg.2.1 v9) size k) (jq + 1)))), (7, .int (nI jq)), (6, .int (nI k)), (0, .ref (a 0)), (1, .int (nI v9)), (2, .int (nI size)), (3, .ref (xR u 0 v9)), (4, .int (nI ((vsN sg.2.1 v9).length / size)))] := hl
          refine lv_iinc (v := nI (jq + 1)) (lv' := [(7, .int (nI (jq + 1))), (5, .int (nI ((colN (vsN sg.2.1 v9) size k) + ct (colP (vsN sg.2.1 v9) size k) (jq + 1)))), (6, .int (nI k)), (0, .ref (a 0)), (1, .int (nI v9)), (2, .int (nI size)), (3, .ref (xR u 0 v9)), (4, .int (nI ((vsN sg.2.1 v9).length / size)))]) hx hb dX2_collisions_95 hl (k := 1) rfl (z_inc _) (by decide) rfl (fun ls hl => ?_)
          refine lv_goto (tgt := 51) hx hb dX2_collisions_98 (by decide) ?_
          exact ih51 (jq + 1) ls H locs (show k - (jq + 1) < dd51 by omega) ⟨lv_sub hl [0, 2, 1, 3, 4, 5, 6, 7] rfl, hW, hS, (show (jq + 1) ≤ k from by omega)⟩
