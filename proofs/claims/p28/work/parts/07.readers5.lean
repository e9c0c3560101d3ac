/-! a patch's price and its digest -/
set_option maxHeartbeats 4000000 in
set_option maxRecDepth 100000 in
theorem c_X0_priceOf (l : Launch) (D : va_G) (cs : Nat → ClassId) (b0 n0 : Nat) (o : Nat → Int32) (hn0 : n0 ≤ 400) : Met l yX0_priceOf wsX0_priceOf ({ frames := 1, cells := 0, slots := 0, locals := 22 }) (zP [.ref b0] (fun H => At D b0 (fa cs n0 o) H) D cs) (vp_Si (fun r => r = nI (costN o n0))) 0 0 (fun _ => False) := by
  refine Met.ofW (cc := cX0_priceOf) (maxL := 3) (ret := (some .int)) (by decide) rfl ?_
  intro p e s m args below meth c s₁ B hml hv
  obtain ⟨rfl, hPH, hK⟩ := hv
  have hx := B.exec
  have hb := B.bytes
  have hr := B.returns
  have hts := atoms_spec (ws := wsX0_priceOf) B.pre
  have hown : s.vm.findClass RX0 = some m.cls := findClass_of_methodNamed B.named
  have hlocks := B.notSynchronized
  have hPH : At D b0 (fa cs n0 o) s.heap := hPH
  have hl := lv_entry ([.ref b0]) (n := 3) (Nat.le_of_ble_eq_true rfl)
  rw [lg_entry_eq]
  generalize (lg_sl ([.ref b0]) ++ List.replicate (3 - (lg_sl ([.ref b0])).length) Slot.unset).toArray = ls at hl ⊢
  have hl : lv_has ls 3 [(0, .ref b0)] := hl
  have ha0 := hPH
  refine lv_aload_n hx hb dX0_priceOf_0 rfl (lv_at hl 0 rfl) ?_
  refine z_csS (As := [.ref b0]) (rest := []) ⟨hx, hb, hml, hown, hts⟩ (c_X0_literalsIn l D cs b0 n0 o (by omega)) (va_cwS 1 hts gX0_priceOf_X0_literalsIn rfl rfl rfl (by decide +kernel) ⟨Nat.le_of_ble_eq_true rfl, Nat.le_of_ble_eq_true rfl⟩) ha0 hK rfl hl.1 rfl (Nat.le_of_ble_eq_true rfl) dX0_priceOf_1 ⟨Nat.zero_le _, Nat.zero_le _⟩ (fun r hq9 => ?_)
  have hq9 : r = nI (litN o n0) := hq9
  subst hq9
  refine lv_istore_n (lv' := [(1, .int (nI (litN o n0))), (0, .ref b0)]) hx hb dX0_priceOf_4 rfl hl (by decide) rfl (fun ls hl => ?_)
  refine lv_iconst (v := nI 0) hx hb dX0_priceOf_5 (by decide) ?_
  refine lv_istore_n (lv' := [(2, .int (nI 0)), (1, .int (nI (litN o n0))), (0, .ref b0)]) hx hb dX0_priceOf_6 rfl hl (by decide) rfl (fun ls hl => ?_)
  refine z_loop (σ := Nat) (fun q9 => n0 - q9) (fun q9 ls => lv_has ls 3 [(2, .int (nI q9)), (1, .int (nI (litN o n0 + sm (fun z => if stA o z = true then wt o z else 0) q9))), (0, .ref b0)] ∧ (q9 ≤ n0)) 0 ⟨lv_sub hl [0, 1, 2] rfl, (show 0 ≤ n0 from by omega)⟩ (fun dd7 ih7 y9 ls hd9 hI9 => ?_)
  obtain ⟨k, rfl⟩ : ∃ z, z = y9 := ⟨_, rfl⟩
  have hd7 : n0 - k = dd7 := hd9
  have hI9 : lv_has ls 3 [(2, .int (nI k)), (1, .int (nI (litN o n0 + sm (fun z => if stA o z = true then wt o z else 0) k))), (0, .ref b0)] ∧ (k ≤ n0) := hI9
  obtain ⟨hl, hk⟩ := hI9
  have hc9 := ct_le (ltA o) n0
  have hc9 : litN o n0 ≤ n0 := hc9
  have hc8 := cs_lt o (k := k) (by omega)
  refine lv_iload_n hx hb dX0_priceOf_7 rfl (lv_at hl 0 rfl) ?_
  refine lv_aload_n hx hb dX0_priceOf_8 rfl (lv_at hl 2 rfl) ?_
  refine z_alen (n := n0) hx hb hK ha0 dX0_priceOf_9 ?_
  refine z_icmp_ge (tgt := 42) hx hb (by omega) (by omega) dX0_priceOf_10 (by decide) (fun hc10 => ?_) (fun hc10 => ?_)
  · skip
    have hc10 : n0 ≤ k := hc10
    have e9 : k = n0 := by omega
    rw [e9] at hl
    refine lv_iload_n hx hb dX0_priceOf_42 rfl (lv_at hl 1 rfl) ?_
    exact W.iret (v := nI (litN o n0 + sm (fun z => if stA o z = true then wt o z else 0) n0)) hx hb hr (fun t ht hW => ⟨_, rfl, rfl, ht⟩) (fun q hq => absurd hq List.not_mem_nil) dX0_priceOf_43
  · skip
    have hc10 : k < n0 := hc10
    refine lv_aload_n hx hb dX0_priceOf_13 rfl (lv_at hl 2 rfl) ?_
    refine lv_iload_n hx hb dX0_priceOf_14 rfl (lv_at hl 0 rfl) ?_
    refine z_csS (As := [.ref b0, .int (nI k)]) (rest := []) ⟨hx, hb, hml, hown, hts⟩ (c_X0_startsAt l D cs b0 n0 o k (by omega) (by omega)) (va_cwS 2 hts gX0_priceOf_X0_startsAt rfl rfl rfl (by decide +kernel) ⟨Nat.le_of_ble_eq_true rfl, Nat.le_of_ble_eq_true rfl⟩) ha0 hK rfl hl.1 rfl (Nat.le_of_ble_eq_true rfl) dX0_priceOf_15 ⟨Nat.zero_le _, Nat.zero_le _⟩ (fun r hq9 => ?_)
    have hq9 : r = bI (stA o k) := hq9
    subst hq9
    refine z_ifb_eq (tgt := 36) hx hb dX0_priceOf_18 (by decide) (fun hc18 => ?_) (fun hc18 => ?_)
    · skip
      have hc18 : (stA o k) = false := hc18
      rw [← cs_f hc18] at hl
      refine lv_iinc (v := nI (k + 1)) (lv' := [(2, .int (nI (k + 1))), (1, .int (nI (litN o n0 + sm (fun z => if stA o z = true then wt o z else 0) (k + 1)))), (0, .ref b0)]) hx hb dX0_priceOf_36 hl (k := 0) rfl (z_inc _) (by decide) rfl (fun ls hl => ?_)
      refine lv_goto (tgt := 7) hx hb dX0_priceOf_39 (by decide) ?_
      exact ih7 (k + 1) ls (show n0 - (k + 1) < dd7 by omega) ⟨lv_sub hl [0, 1, 2] rfl, (show (k + 1) ≤ n0 from by omega)⟩
    · skip
      have hc18 : (stA o k) = true := hc18
      refine lv_iload_n hx hb dX0_priceOf_21 rfl (lv_at hl 1 rfl) ?_
      refine lv_aload_n hx hb dX0_priceOf_22 rfl (lv_at hl 2 rfl) ?_
      refine lv_iload_n hx hb dX0_priceOf_23 rfl (lv_at hl 0 rfl) ?_
      refine z_iald (k := k) (f := o) hx hb hK ha0 (by omega) (by omega) dX0_priceOf_24 ?_
      refine lv_iconst (v := (-1 : Int32)) hx hb dX0_priceOf_25 (by decide) ?_
      refine lv_icmp_ne (tgt := 33) hx hb dX0_priceOf_26 (by decide) (fun hc26 => ?_) (fun hc26 => ?_)
      · skip
        have hc26 : ¬ (o k) = (-1 : Int32) := hc26
        refine lv_iconst (v := nI 5) hx hb dX0_priceOf_33 (by decide) ?_
        refine lv_iadd hx hb dX0_priceOf_34 ?_
        refine zti (nI_add _ _) (y := nI (litN o n0 + sm (fun z => if stA o z = true then wt o z else 0) k + 5)) ?_
        refine zti (y := nI (litN o n0 + sm (fun z => if stA o z = true then wt o z else 0) (k + 1))) (congrArg nI (by rw [Nat.add_assoc, cs_t hc18 (wt_c hc26)])) ?_
        refine lv_istore_n (lv' := [(1, .int (nI (litN o n0 + sm (fun z => if stA o z = true then wt o z else 0) (k + 1)))), (2, .int (nI k)), (0, .ref b0)]) hx hb dX0_priceOf_35 rfl hl (by decide) rfl (fun ls hl => ?_)
        refine lv_iinc (v := nI (k + 1)) (lv' := [(2, .int (nI (k + 1))), (1, .int (nI (litN o n0 + sm (fun z => if stA o z = true then wt o z else 0) (k + 1)))), (0, .ref b0)]) hx hb dX0_priceOf_36 hl (k := 1) rfl (z_inc _) (by decide) rfl (fun ls hl => ?_)
        refine lv_goto (tgt := 7) hx hb dX0_priceOf_39 (by decide) ?_
        exact ih7 (k + 1) ls (show n0 - (k + 1) < dd7 by omega) ⟨lv_sub hl [0, 1, 2] rfl, (show (k + 1) ≤ n0 from by omega)⟩
      · skip
        have hc26 : (o k) = (-1 : Int32) := hc26
        refine lv_iconst (v := nI 2) hx hb dX0_priceOf_29 (by decide) ?_
        refine lv_goto (tgt := 34) hx hb dX0_priceOf_30 (by decide) ?_
        refine lv_iadd hx hb dX0_priceOf_34 ?_
        refine zti (nI_add _ _) (y := nI (litN o n0 + sm (fun z => if stA o z = true then wt o z else 0) k + 2)) ?_
        refine zti (y := nI (litN o n0 + sm (fun z => if stA o z = true then wt o z else 0) (k + 1))) (congrArg nI (by rw [Nat.add_assoc, cs_t hc18 (wt_l hc26)])) ?_
        refine lv_istore_n (lv' := [(1, .int (nI (litN o n0 + sm (fun z => if stA o z = true then wt o z else 0) (k + 1)))), (2, .int (nI k)), (0, .ref b0)]) hx hb dX0_priceOf_35 rfl hl (by decide) rfl (fun ls hl => ?_)
        refine lv_iinc (v := nI (k + 1)) (lv' := [(2, .int (nI (k + 1))), (1, .int (nI (litN o n0 + sm (fun z => if stA o z = true then wt o z else 0) (k + 1)))), (0, .ref b0)]) hx hb dX0_priceOf_36 hl (k := 1) rfl (z_inc _) (by decide) rfl (fun ls hl => ?_)
        refine lv_goto (tgt := 7) hx hb dX0_priceOf_39 (by decide) ?_
        exact ih7 (k + 1) ls (show n0 - (k + 1) < dd7 by omega) ⟨lv_sub hl [0, 1, 2] rfl, (show (k + 1) ≤ n0 from by omega)⟩

