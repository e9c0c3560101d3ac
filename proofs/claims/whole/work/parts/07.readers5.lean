/-! a patch's price and its digest -/
set_option maxHeartbeats 4000000 in
set_option maxRecDepth 100000 in
theorem c_X0_priceOf (l : Launch) (D : va_G) (cs : Nat → ClassId) (b0 n0 : Nat) (o : Nat → Int32) (hn0 : n0 ≤ 400) : Met l yX0_priceOf wsX0_priceOf ({ frames := 1, cells := 0, slots := 0, locals := 22 }) (zP [.ref b0] (fun H => At D b0 (fa cs n0 o) H) D cs) (vp_Si (fun r => r = nI (costN o n0))) 0 0 (fun _ => False) := by
  refine Met.ofW (cc := cX0_priceOf) (maxL := 3) (ret := (some .int)) (by decide) rfl ?_
  intro p e s m args below meth c s₁ B hml hv
  obtain ⟨rfl, hPH, hK⟩ := hv
  have hx := B.exec
  have hb := B.bytes
  have hr := B.returns
  have hts := atoms_spec (ws := wsX0_priceOf) B.pre
  have hown : s.vm.findClass RX0 = some m.cls := findClass_of_methodNamed B.named
  have hlocks := B.notSynchronized
  have hPH : At D b0 (fa cs n0 o) s.heap := hPH
  have hl := lv_entry ([.ref b0]) (n := 3) (Nat.le_of_ble_eq_true rfl)
  rw [lg_entry_eq]
  generalize (lg_sl ([.ref b0]) ++ List.replicate (3 - (lg_sl ([.ref b0])).length) Slot.unset).toArray = ls at hl ⊢
  have hl : lv_has ls 3 [(0, .ref b0)] := hl
  have ha0 := hPH
  refine lv_aload_n hx hb dX0_priceOf_0 rfl (lv_at hl 0 rfl) ?_
  refine z_csS (As := [.ref b0]) (rest := []) ⟨hx, hb, hml, hown, hts⟩ (c_X0_literalsIn l D cs b0 n0 o (by omega)) (va_cwS 1 hts gX0_priceOf_X0_literalsIn rfl rfl rfl (by decide +kernel) ⟨Nat.le_of_ble_eq_true rfl, Nat.le_of_ble_eq_true rfl⟩) ha0 hK rfl hl.1 rfl (Nat.le_of_ble_eq_true rfl) dX0_priceOf_1 ⟨Nat.zero_le _, Nat.zero_le _⟩ (fun r hq9 => ?_)
  have hq9 : r = nI (litN o n0) := hq9
  subst hq9
  refine lv_istore_n (lv' := [(1, .int (nI (litN o n0))), (0, .ref b0)]) hx hb dX0_priceOf_4 rfl hl (by decide) rfl (fun ls hl => ?_)
  refine lv_iconst (v := nI 0) hx hb dX0_priceOf_5 (by decide) ?_
  refine lv_istore_n (lv' := [(2, .int (nI 0)), (1, .int (nI (litN o n0))), (0, .ref b0)]) hx hb dX0_priceOf_6 rfl hl (by decide) rfl (fun ls hl => ?_)
  refine z_loop (σ := Nat) (fun q9 => n0 - q9) (fun q9 ls => lv_has ls 3 [(2, .int (nI q9)), (1, .int (nI (litN o n0 + sm (fun z => if stA o z = true then wt o z else 0) q9))), (0, .ref b0)] ∧ (q9 ≤ n0)) 0 ⟨lv_sub hl [0, 1, 2] rfl, (show 0 ≤ n0 from by omega)⟩ (fun dd7 ih7 y9 ls hd9 hI9 => ?_)
  obtain ⟨k, rfl⟩ : ∃ z, z = y9 := ⟨_, rfl⟩
  have hd7 : n0 - k = dd7 := hd9
  have hI9 : lv_has ls 3 [(2, .int (nI k)), (1, .int (nI (litN o n0 + sm (fun z => if stA o z = true then wt o z else 0) k))), (0, .ref b0)] ∧ (k ≤ n0) := hI9
  obtain ⟨hl, hk⟩ := hI9
  have hc9 := ct_le (ltA o) n0
  have hc9 : litN o n0 ≤ n0 := hc9
  have hc8 := cs_lt o (k := k) (by omega)
  refine lv_iload_n hx hb dX0_priceOf_7 rfl (lv_at hl 0 rfl) ?_
  refine lv_aload_n hx hb dX0_priceOf_8 rfl (lv_at hl 2 rfl) ?_
  refine z_alen (n := n0) hx hb hK ha0 dX0_priceOf_9 ?_
  refine z_icmp_ge (tgt := 42) hx hb (by omega) (by omega) dX0_priceOf_10 (by decide) (fun hc10 => ?_) (fun hc10 => ?_)
  · skip
    have hc10 : n0 ≤ k := hc10
    have e9 : k = n0 := by omega
    rw [e9] at hl
    refine lv_iload_n hx hb dX0_priceOf_42 rfl (lv_at hl 1 rfl) ?_
    exact W.iret (v := nI (litN o n0 + sm (fun z => if stA o z = true then wt o z else 0) n0)) hx hb hr (fun t ht hW => ⟨_, rfl, rfl, ht⟩) (fun q hq => absurd hq List.not_mem_nil) dX0_priceOf_43
  · skip
    have hc10 : k < n0 := hc10
    refine lv_aload_n hx hb dX0_priceOf_13 rfl (lv_at hl 2 rfl) ?_
    refine lv_iload_n hx hb dX0_priceOf_14 rfl (lv_at hl 0 rfl) ?_
    refine z_csS (As := [.ref b0, .int (nI k)]) (rest := []) ⟨hx, hb, hml, hown, hts⟩ (c_X0_startsAt l D cs b0 n0 o k (by omega) (by omega)) (va_cwS 2 hts gX0_priceOf_X0_startsAt rfl rfl rfl (by decide +kernel) ⟨Nat.le_of_ble_eq_true rfl, Nat.le_of_ble_eq_true rfl⟩) ha0 hK rfl hl.1 rfl (Nat.le_of_ble_eq_true rfl) dX0_priceOf_15 ⟨Nat.zero_le _, Nat.zero_le _⟩ (fun r hq9 => ?_)
    have hq9 : r = bI (stA o k) := hq9
    subst hq9
    refine z_ifb_eq (tgt := 36) hx hb dX0_priceOf_18 (by decide) (fun hc18 => ?_) (fun hc18 => ?_)
    · skip
      have hc18 : (stA o k) = false := hc18
      rw [← cs_f hc18] at hl
      refine lv_iinc (v := nI (k + 1)) (lv' := [(2, .int (nI (k + 1))), (1, .int (nI (litN o n0 + sm (fun z => if stA o z = true then wt o z else 0) (k + 1)))), (0, .ref b0)]) hx hb dX0_priceOf_36 hl (k := 0) rfl (z_inc _) (by decide) rfl (fun ls hl => ?_)
      refine lv_goto (tgt := 7) hx hb dX0_priceOf_39 (by decide) ?_
      exact ih7 (k + 1) ls (show n0 - (k + 1) < dd7 by omega) ⟨lv_sub hl [0, 1, 2] rfl, (show (k + 1) ≤ n0 from by omega)⟩
    · skip
      have hc18 : (stA o k) = true := hc18
      refine lv_iload_n hx hb dX0_priceOf_21 rfl (lv_at hl 1 rfl) ?_
      refine lv_aload_n hx hb dX0_priceOf_22 rfl (lv_at hl 2 rfl) ?_
      refine lv_iload_n hx hb dX0_priceOf_23 rfl (lv_at hl 0 rfl) ?_
      refine z_iald (k := k) (f := o) hx hb hK ha0 (by omega) (by omega) dX0_priceOf_24 ?_
      refine lv_iconst (v := (-1 : Int32)) hx hb dX0_priceOf_25 (by decide) ?_
      refine lv_icmp_ne (tgt := 33) hx hb dX0_priceOf_26 (by decide) (fun hc26 => ?_) (fun hc26 => ?_)
      · skip
        have hc26 : ¬ (o k) = (-1 : Int32) := hc26
        refine lv_iconst (v := nI 5) hx hb dX0_priceOf_33 (by decide) ?_
        refine lv_iadd hx hb dX0_priceOf_34 ?_
        refine zti (nI_add _ _) (y := nI (litN o n0 + sm (fun z => if stA o z = true then wt o z else 0) k + 5)) ?_
        refine zti (y := nI (litN o n0 + sm (fun z => if stA o z = true then wt o z else 0) (k + 1))) (congrArg nI (by rw [Nat.add_assoc, cs_t hc18 (wt_c hc26)])) ?_
        refine lv_istore_n (lv' := [(1, .int (nI (litN o n0 + sm (fun z => if stA o z = true then wt o z else 0) (k + 1)))), (2, .int (nI k)), (0, .ref b0)]) hx hb dX0_priceOf_35 rfl hl (by decide) rfl (fun ls hl => ?_)
        refine lv_iinc (v := nI (k + 1)) (lv' := [(2, .int (nI (k + 1))), (1, .int (nI (litN o n0 + sm (fun z => if stA o z = true then wt o z else 0) (k + 1)))), (0, .ref b0)]) hx hb dX0_priceOf_36 hl (k := 1) rfl (z_inc _) (by decide) rfl (fun ls hl => ?_)
        refine lv_goto (tgt := 7) hx hb dX0_priceOf_39 (by decide) ?_
        exact ih7 (k + 1) ls (show n0 - (k + 1) < dd7 by omega) ⟨lv_sub hl [0, 1, 2] rfl, (show (k + 1) ≤ n0 from by omega)⟩
      · skip
        have hc26 : (o k) = (-1 : Int32) := hc26
        refine lv_iconst (v := nI 2) hx hb dX0_priceOf_29 (by decide) ?_
        refine lv_goto (tgt := 34) hx hb dX0_priceOf_30 (by decide) ?_
        refine lv_iadd hx hb dX0_priceOf_34 ?_
        refine zti (nI_add _ _) (y := nI (litN o n0 + sm (fun z => if stA o z = true then wt o z else 0) k + 2)) ?_
        refine zti (y := nI (litN o n0 + sm (fun z => if stA o z = true then wt o z else 0) (k + 1))) (congrArg nI (by rw [Nat.add_assoc, cs_t hc18 (wt_l hc26)])) ?_
        refine lv_istore_n (lv' := [(1, .int (nI (litN o n0 + sm (fun z => if stA o z = true then wt o z else 0) (k + 1)))), (2, .int (nI k)), (0, .ref b0)]) hx hb dX0_priceOf_35 rfl hl (by decide) rfl (fun ls hl => ?_)
        refine lv_iinc (v := nI (k + 1)) (lv' := [(2, .int (nI (k + 1))), (1, .int (nI (litN o n0 + sm (fun z => if stA o z = true then wt o z else 0) (k + 1)))), (0, .ref b0)]) hx hb dX0_priceOf_36 hl (k := 1) rfl (z_inc _) (by decide) rfl (fun ls hl => ?_)
        refine lv_goto (tgt := 7) hx hb dX0_priceOf_39 (by decide) ?_
        exact ih7 (k + 1) ls (show n0 - (k + 1) < dd7 by omega) ⟨lv_sub hl [0, 1, 2] rfl, (show (k + 1) ≤ n0 from by omega)⟩

set_option maxHeartbeats 4000000 in
set_option maxRecDepth 100000 in
theorem c_X2_digestOfPatch (l : Launch) (D : va_G) (cs : Nat → ClassId) (pa gr ga oa sa n0 : Nat) (pb pg lb pr : Int32) (o : Nat → Int32) (v : Nat → Nat) (hv : ∀ i, v i < 256) (hn0 : n0 ≤ 400) (d : Int64) : Met l yX2_digestOfPatch wsX2_digestOfPatch ({ frames := 2, cells := 0, slots := 0, locals := 50 }) (zP [.long d, .ref pa] (fun H => At D pa (.inr (1, [.int pb, .int pg, .ref gr, .ref oa, .ref sa, .int lb, .int pr])) H ∧ At D oa (fa cs n0 o) H ∧ At D sa (fa cs (manyN o n0) (fun i => nI (posN o n0 i))) H ∧ At D gr (.inr (2, [.ref ga])) H ∧ At D ga (fa cs n0 (fun i => nI (v i))) H) D cs) (vp_Sl (fun r => r = dgP d (tellI o v n0) (manyN o n0))) 0 0 (fun _ => False) := by
  refine Met.ofW (cc := cX2_digestOfPatch) (maxL := 7) (ret := (some .long)) (by decide) rfl ?_
  intro p e s m args below meth c s₁ B hml hv
  obtain ⟨rfl, hPH, hK⟩ := hv
  have hx := B.exec
  have hb := B.bytes
  have hr := B.returns
  have hts := atoms_spec (ws := wsX2_digestOfPatch) B.pre
  have hown : s.vm.findClass RX2 = some m.cls := findClass_of_methodNamed B.named
  have hlocks := B.notSynchronized
  have fl142 := hts (.fieldLink RX2 142 "DeltaUpdater$Patch" "starts" "[I") (by decide +kernel)
  have in1 : ∀ w ∈ u_ws RX0 TX0 7, w ∈ wsX2_digestOfPatch := by decide +kernel
  have hPH : At D pa (.inr (1, [.int pb, .int pg, .ref gr, .ref oa, .ref sa, .int lb, .int pr])) s.heap ∧ At D oa (fa cs n0 o) s.heap ∧ At D sa (fa cs (manyN o n0) (fun i => nI (posN o n0 i))) s.heap ∧ At D gr (.inr (2, [.ref ga])) s.heap ∧ At D ga (fa cs n0 (fun i => nI (v i))) s.heap := hPH
  obtain ⟨hpa, hoa, hsa, hgr, hga⟩ := hPH
  have hl := lv_entry ([.long d, .ref pa]) (n := 7) (Nat.le_of_ble_eq_true rfl)
  rw [lg_entry_eq]
  generalize (lg_sl ([.long d, .ref pa]) ++ List.replicate (7 - (lg_sl ([.long d, .ref pa])).length) Slot.unset).toArray = ls at hl ⊢
  have hl : lv_has ls 7 [(0, .long d), (2, .ref pa)] := hl
  have hmn : manyN o n0 ≤ n0 := ct_le (stA o) n0
  refine lv_lload_n hx hb dX2_digestOfPatch_0 rfl (lv_at hl 0 rfl) ?_
  refine lv_ldc2 (v := 31) hx hb hown (hts (.constantLong RX2 185 (31)) (by decide +kernel)) dX2_digestOfPatch_1 ?_
  refine lv_lmul hx hb dX2_digestOfPatch_4 ?_
  refine lv_aload_n hx hb dX2_digestOfPatch_5 rfl (lv_at hl 1 rfl) ?_
  refine z_get (ci := 1) (v := .ref sa) (C := RX0) (T := TX0) (N := 7) hx hb hts in1 hown hK hpa rfl 4 (by decide) fl142 (fun _ h9 => h9) rfl dX2_digestOfPatch_6 ?_
  refine z_alen (n := (manyN o n0)) hx hb hK hsa dX2_digestOfPatch_9 ?_
  refine lv_i2l (v := (nI (manyN o n0)).toInt64) hx hb dX2_digestOfPatch_10 rfl ?_
  refine lv_ladd hx hb dX2_digestOfPatch_11 ?_
  refine lv_lstore_n (lv' := [(3, .long ((d * 31) + ((nI (manyN o n0)).toInt64))), (0, .long d), (2, .ref pa)]) hx hb dX2_digestOfPatch_12 rfl hl (by decide) rfl (fun ls hl => ?_)
  refine lv_iconst (v := nI 0) hx hb dX2_digestOfPatch_13 (by decide) ?_
  refine lv_istore (lv' := [(5, .int (nI 0)), (3, .long ((d * 31) + ((nI (manyN o n0)).toInt64))), (0, .long d), (2, .ref pa)]) hx hb dX2_digestOfPatch_14 hl (by decide) rfl (fun ls hl => ?_)
  refine z_loop (σ := Nat) (fun q9 => manyN o n0 - q9) (fun q9 ls => lv_has ls 7 [(5, .int (nI q9)), (3, .long (dgI (d * 31 + (nI (manyN o n0)).toInt64) (tellI o v n0) q9)), (0, .long d), (2, .ref pa)] ∧ (q9 ≤ manyN o n0)) 0 ⟨lv_sub hl [0, 1, 2, 3] rfl, (show 0 ≤ manyN o n0 from by omega)⟩ (fun dd16 ih16 y9 ls hd9 hI9 => ?_)
  obtain ⟨i, rfl⟩ : ∃ z, z = y9 := ⟨_, rfl⟩
  have hd16 : manyN o n0 - i = dd16 := hd9
  have hI9 : lv_has ls 7 [(5, .int (nI i)), (3, .long (dgI (d * 31 + (nI (manyN o n0)).toInt64) (tellI o v n0) i)), (0, .long d), (2, .ref pa)] ∧ (i ≤ manyN o n0) := hI9
  obtain ⟨hl, hi⟩ := hI9
  refine lv_iload hx hb dX2_digestOfPatch_16 (lv_at hl 0 rfl) ?_
  refine lv_aload_n hx hb dX2_digestOfPatch_18 rfl (lv_at hl 3 rfl) ?_
  refine z_get (ci := 1) (v := .ref sa) (C := RX0) (T := TX0) (N := 7) hx hb hts in1 hown hK hpa rfl 4 (by decide) fl142 (fun _ h9 => h9) rfl dX2_digestOfPatch_19 ?_
  refine z_alen (n := (manyN o n0)) hx hb hK hsa dX2_digestOfPatch_22 ?_
  refine z_icmp_ge (tgt := 63) hx hb (by omega) (by omega) dX2_digestOfPatch_23 (by decide) (fun hc23 => ?_) (fun hc23 => ?_)
  · skip
    have hc23 : (manyN o n0) ≤ i := hc23
    have e9 : i = manyN o n0 := by omega
    rw [e9] at hl
    refine lv_lload_n hx hb dX2_digestOfPatch_63 rfl (lv_at hl 1 rfl) ?_
    exact W.lret (v := dgI (d * 31 + (nI (manyN o n0)).toInt64) (tellI o v n0) (manyN o n0)) hx hb hr (fun t ht hW => ⟨_, rfl, rfl, ht⟩) (fun q hq => absurd hq List.not_mem_nil) dX2_digestOfPatch_64
  · skip
    have hc23 : i < (manyN o n0) := hc23
    refine lv_iconst (v := nI 0) hx hb dX2_digestOfPatch_26 (by decide) ?_
    refine lv_istore (lv' := [(6, .int (nI 0)), (5, .int (nI i)), (3, .long (dgI (d * 31 + (nI (manyN o n0)).toInt64) (tellI o v n0) i)), (0, .long d), (2, .ref pa)]) hx hb dX2_digestOfPatch_27 hl (by decide) rfl (fun ls hl => ?_)
    refine z_loop (σ := Nat) (fun q9 => 4 - q9) (fun q9 ls => lv_has ls 7 [(6, .int (nI q9)), (5, .int (nI i)), (3, .long (dgT (dgI (d * 31 + (nI (manyN o n0)).toInt64) (tellI o v n0) i) (tellI o v n0) i q9)), (0, .long d), (2, .ref pa)] ∧ (q9 ≤ 4)) 0 ⟨lv_sub hl [0, 1, 2, 3, 4] rfl, (show 0 ≤ 4 from by omega)⟩ (fun dd29 ih29 y9 ls hd9 hI9 => ?_)
    obtain ⟨w, rfl⟩ : ∃ z, z = y9 := ⟨_, rfl⟩
    have hd29 : 4 - w = dd29 := hd9
    have hI9 : lv_has ls 7 [(6, .int (nI w)), (5, .int (nI i)), (3, .long (dgT (dgI (d * 31 + (nI (manyN o n0)).toInt64) (tellI o v n0) i) (tellI o v n0) i w)), (0, .long d), (2, .ref pa)] ∧ (w ≤ 4) := hI9
    obtain ⟨hl, hw⟩ := hI9
    refine lv_iload hx hb dX2_digestOfPatch_29 (lv_at hl 0 rfl) ?_
    refine lv_iconst (v := nI 3) hx hb dX2_digestOfPatch_31 (by decide) ?_
    refine z_icmp_gt (tgt := 57) hx hb (by omega) (by omega) dX2_digestOfPatch_32 (by decide) (fun hc32 => ?_) (fun hc32 => ?_)
    · skip
      have hc32 : 3 < w := hc32
      have e9 : w = 4 := by omega
      rw [e9] at hl
      refine lv_iinc (v := nI (i + 1)) (lv' := [(5, .int (nI (i + 1))), (6, .int (nI 4)), (3, .long (dgT (dgI (d * 31 + (nI (manyN o n0)).toInt64) (tellI o v n0) i) (tellI o v n0) i 4)), (0, .long d), (2, .ref pa)]) hx hb dX2_digestOfPatch_57 hl (k := 1) rfl (z_inc _) (by decide) rfl (fun ls hl => ?_)
      refine lv_goto (tgt := 16) hx hb dX2_digestOfPatch_60 (by decide) ?_
      exact ih16 (i + 1) ls (show manyN o n0 - (i + 1) < dd16 by omega) ⟨lv_sub hl [0, 2, 3, 4] rfl, (show (i + 1) ≤ manyN o n0 from by omega)⟩
    · skip
      have hc32 : w ≤ 3 := hc32
      refine lv_lload_n hx hb dX2_digestOfPatch_35 rfl (lv_at hl 2 rfl) ?_
      refine lv_ldc2 (v := 31) hx hb hown (hts (.constantLong RX2 185 (31)) (by decide +kernel)) dX2_digestOfPatch_36 ?_
      refine lv_lmul hx hb dX2_digestOfPatch_39 ?_
      refine lv_aload_n hx hb dX2_digestOfPatch_40 rfl (lv_at hl 4 rfl) ?_
      refine lv_iload hx hb dX2_digestOfPatch_41 (lv_at hl 1 rfl) ?_
      refine lv_iload hx hb dX2_digestOfPatch_43 (lv_at hl 0 rfl) ?_
      refine z_csV (As := [.int (nI i), .int (nI w)]) (rest := [.long ((dgT (dgI (d * 31 + (nI (manyN o n0)).toInt64) (tellI o v n0) i) (tellI o v n0) i w) * 31)]) ⟨hx, hb, hml, hown, hts⟩ (c_X0_tell l D cs pa gr ga oa sa n0 pb pg lb pr o v hv hn0 i (by omega) w (by omega)) (cwV 2 hts gX2_digestOfPatch_X0_tell rfl rfl rfl (by decide +kernel) ⟨Nat.le_of_ble_eq_true rfl, Nat.le_of_ble_eq_true rfl⟩) hpa rfl ⟨hpa, hoa, hsa, hgr, hga⟩ hK rfl hl.1 rfl (Nat.le_of_ble_eq_true rfl) dX2_digestOfPatch_45 ⟨Nat.zero_le _, Nat.zero_le _⟩ (fun r hq9 => ?_)
      have hq9 : r = tellI o v n0 i w := hq9
      subst hq9
      refine lv_i2l (v := (tellI o v n0 i w).toInt64) hx hb dX2_digestOfPatch_48 rfl ?_
      refine lv_ladd hx hb dX2_digestOfPatch_49 ?_
      refine lv_lstore_n (lv' := [(3, .long (((dgT (dgI (d * 31 + (nI (manyN o n0)).toInt64) (tellI o v n0) i) (tellI o v n0) i w) * 31) + ((tellI o v n0 i w).toInt64))), (6, .int (nI w)), (5, .int (nI i)), (0, .long d), (2, .ref pa)]) hx hb dX2_digestOfPatch_50 rfl hl (by decide) rfl (fun ls hl => ?_)
      refine lv_iinc (v := nI (w + 1)) (lv' := [(6, .int (nI (w + 1))), (3, .long (((dgT (dgI (d * 31 + (nI (manyN o n0)).toInt64) (tellI o v n0) i) (tellI o v n0) i w) * 31) + ((tellI o v n0 i w).toInt64))), (5, .int (nI i)), (0, .long d), (2, .ref pa)]) hx hb dX2_digestOfPatch_51 hl (k := 1) rfl (z_inc _) (by decide) rfl (fun ls hl => ?_)
      refine lv_goto (tgt := 29) hx hb dX2_digestOfPatch_54 (by decide) ?_
      exact ih29 (w + 1) ls (show 4 - (w + 1) < dd29 by omega) ⟨lv_sub hl [0, 2, 1, 3, 4] rfl, (show (w + 1) ≤ 4 from by omega)⟩
