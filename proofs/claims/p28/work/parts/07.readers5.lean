/-! a patch's price and its digest -/
theorem pr_sum (o : Nat → Int32) (n : Nat) : ∀ j, j ≤ n → sm (fun i => wt o (posN o n i)) (ct (stA o) j) = sm (fun z => if stA o z = true then wt o z else 0) j
  | 0, _ => rfl
  | j + 1, h => by
    have ih := pr_sum o n j (by omega)
    cases hj : stA o j with
    | true =>
      rw [ct_t hj, ← cs_t hj rfl, ← ih]
      show sm _ (ct (stA o) j) + wt o (posN o n (ct (stA o) j)) = _
      rw [pos_uq (by omega) hj]
    | false => rw [ct_f hj, cs_f hj, ih]
theorem pr_le (o : Nat → Int32) (n k : Nat) (h : k ≤ 400) : sm (fun i => wt o (posN o n i)) k ≤ 2000 := by
  have h1 := sm_bound (f := fun i => wt o (posN o n i)) (c := 5) (n := k) (fun z _ => wt_le o _)
  omega

set_option maxHeartbeats 4000000 in
set_option maxRecDepth 100000 in
theorem c_X0_priceOf (l : Launch) (D : va_G) (cs : Nat → ClassId) (b0 c0 n0 : Nat) (o : Nat → Int32) (lt : Nat) (hlt : lt ≤ 400) (hn0 : n0 ≤ 400) : Met l yX0_priceOf wsX0_priceOf ({ frames := 0, cells := 0, slots := 0, locals := 0 }) (zP [.ref b0, .ref c0, .int (nI lt)] (fun H => At D b0 (fa cs n0 o) H ∧ At D c0 (fa cs (manyN o n0) (fun i => nI (posN o n0 i))) H) D cs) (vp_Si (fun r => r = nI (lt + sm (fun z => if stA o z = true then wt o z else 0) n0))) 0 0 (fun _ => False) := by
  refine Met.ofW (cc := cX0_priceOf) (maxL := 5) (ret := (some .int)) (by decide) rfl ?_
  intro p e s m args below meth c s₁ B hml hv
  obtain ⟨rfl, hPH, hK⟩ := hv
  have hx := B.exec
  have hb := B.bytes
  have hr := B.returns
  have hts := atoms_spec (ws := wsX0_priceOf) B.pre
  have hown : s.vm.findClass RX0 = some m.cls := findClass_of_methodNamed B.named
  have hlocks := B.notSynchronized
  have hPH : At D b0 (fa cs n0 o) s.heap ∧ At D c0 (fa cs (manyN o n0) (fun i => nI (posN o n0 i))) s.heap := hPH
  obtain ⟨ha0, ha1⟩ := hPH
  have hl := lv_entry ([.ref b0, .ref c0, .int (nI lt)]) (n := 5) (Nat.le_of_ble_eq_true rfl)
  rw [lg_entry_eq]
  generalize (lg_sl ([.ref b0, .ref c0, .int (nI lt)]) ++ List.replicate (5 - (lg_sl ([.ref b0, .ref c0, .int (nI lt)])).length) Slot.unset).toArray = ls at hl ⊢
  have hl : lv_has ls 5 [(0, .ref b0), (1, .ref c0), (2, .int (nI lt))] := hl
  have hmn : manyN o n0 ≤ n0 := ct_le (stA o) n0
  refine lv_iload_n hx hb dX0_priceOf_0 rfl (lv_at hl 2 rfl) ?_
  refine lv_istore_n (lv' := [(3, .int (nI lt)), (0, .ref b0), (1, .ref c0), (2, .int (nI lt))]) hx hb dX0_priceOf_1 rfl hl (by decide) rfl (fun ls hl => ?_)
  refine lv_iconst (v := nI 0) hx hb dX0_priceOf_2 (by decide) ?_
  refine lv_istore (lv' := [(4, .int (nI 0)), (3, .int (nI lt)), (0, .ref b0), (1, .ref c0), (2, .int (nI lt))]) hx hb dX0_priceOf_3 hl (by decide) rfl (fun ls hl => ?_)
  refine z_loop (σ := Nat) (fun q9 => manyN o n0 - q9) (fun q9 ls => lv_has ls 5 [(4, .int (nI q9)), (3, .int (nI (lt + sm (fun i => wt o (posN o n0 i)) q9))), (0, .ref b0), (1, .ref c0)] ∧ (q9 ≤ manyN o n0)) 0 ⟨lv_sub hl [0, 1, 2, 3] rfl, (show 0 ≤ manyN o n0 from by omega)⟩ (fun dd5 ih5 y9 ls hd9 hI9 => ?_)
  obtain ⟨k, rfl⟩ : ∃ z, z = y9 := ⟨_, rfl⟩
  have hd5 : manyN o n0 - k = dd5 := hd9
  have hI9 : lv_has ls 5 [(4, .int (nI k)), (3, .int (nI (lt + sm (fun i => wt o (posN o n0 i)) k))), (0, .ref b0), (1, .ref c0)] ∧ (k ≤ manyN o n0) := hI9
  obtain ⟨hl, hk⟩ := hI9
  have hc8 := pr_le o n0 k (by omega)
  refine lv_iload hx hb dX0_priceOf_5 (lv_at hl 0 rfl) ?_
  refine lv_aload_n hx hb dX0_priceOf_7 rfl (lv_at hl 3 rfl) ?_
  refine z_alen (n := (manyN o n0)) hx hb hK ha1 dX0_priceOf_8 ?_
  refine z_icmp_ge (tgt := 36) hx hb (by omega) (by omega) dX0_priceOf_9 (by decide) (fun hc9 => ?_) (fun hc9 => ?_)
  · skip
    have hc9 : (manyN o n0) ≤ k := hc9
    have e9 : k = manyN o n0 := by omega
    rw [e9] at hl
    refine lv_iload_n hx hb dX0_priceOf_36 rfl (lv_at hl 1 rfl) ?_
    exact W.iret (v := nI (lt + sm (fun i => wt o (posN o n0 i)) (manyN o n0))) hx hb hr (fun t ht hW => ⟨_, rfl, (by rw [show manyN o n0 = ct (stA o) n0 from rfl, pr_sum o n0 n0 (Nat.le_refl _)]), ht⟩) (fun q hq => absurd hq List.not_mem_nil) dX0_priceOf_37
  · skip
    have hc9 : k < (manyN o n0) := hc9
    refine lv_iload_n hx hb dX0_priceOf_12 rfl (lv_at hl 1 rfl) ?_
    refine lv_aload_n hx hb dX0_priceOf_13 rfl (lv_at hl 2 rfl) ?_
    refine lv_aload_n hx hb dX0_priceOf_14 rfl (lv_at hl 3 rfl) ?_
    refine lv_iload hx hb dX0_priceOf_15 (lv_at hl 0 rfl) ?_
    refine z_iald (k := k) (f := fun i => nI ((posN o n0) i)) hx hb hK ha1 (by omega) (by omega) dX0_priceOf_17 ?_
    refine zti (y := nI ((posN o n0) k)) rfl ?_
    have hps := (pos_ok (o := o) (n := n0) (i := k) (by omega)).1
    refine z_iald (k := ((posN o n0) k)) (f := o) hx hb hK ha0 (by omega) (by omega) dX0_priceOf_18 ?_
    refine lv_iconst (v := (-1 : Int32)) hx hb dX0_priceOf_19 (by decide) ?_
    refine lv_icmp_ne (tgt := 27) hx hb dX0_priceOf_20 (by decide) (fun hc20 => ?_) (fun hc20 => ?_)
    · skip
      have hc20 : ¬ (o ((posN o n0) k)) = (-1 : Int32) := hc20
      refine lv_iconst (v := nI 5) hx hb dX0_priceOf_27 (by decide) ?_
      refine lv_iadd hx hb dX0_priceOf_28 ?_
      refine zti (nI_add _ _) (y := nI (lt + sm (fun i => wt o (posN o n0 i)) k + 5)) ?_
      refine zti (y := nI (lt + sm (fun i => wt o (posN o n0 i)) (k + 1))) (congrArg nI (by rw [Nat.add_assoc, ← wt_c hc20]; rfl)) ?_
      refine lv_istore_n (lv' := [(3, .int (nI (lt + sm (fun i => wt o (posN o n0 i)) (k + 1)))), (4, .int (nI k)), (0, .ref b0), (1, .ref c0)]) hx hb dX0_priceOf_29 rfl hl (by decide) rfl (fun ls hl => ?_)
      refine lv_iinc (v := nI (k + 1)) (lv' := [(4, .int (nI (k + 1))), (3, .int (nI (lt + sm (fun i => wt o (posN o n0 i)) (k + 1)))), (0, .ref b0), (1, .ref c0)]) hx hb dX0_priceOf_30 hl (k := 1) rfl (z_inc _) (by decide) rfl (fun ls hl => ?_)
      refine lv_goto (tgt := 5) hx hb dX0_priceOf_33 (by decide) ?_
      exact ih5 (k + 1) ls (show manyN o n0 - (k + 1) < dd5 by omega) ⟨lv_sub hl [0, 1, 2, 3] rfl, (show (k + 1) ≤ manyN o n0 from by omega)⟩
    · skip
      have hc20 : (o ((posN o n0) k)) = (-1 : Int32) := hc20
      refine lv_iconst (v := nI 2) hx hb dX0_priceOf_23 (by decide) ?_
      refine lv_goto (tgt := 28) hx hb dX0_priceOf_24 (by decide) ?_
      refine lv_iadd hx hb dX0_priceOf_28 ?_
      refine zti (nI_add _ _) (y := nI (lt + sm (fun i => wt o (posN o n0 i)) k + 2)) ?_
      refine zti (y := nI (lt + sm (fun i => wt o (posN o n0 i)) (k + 1))) (congrArg nI (by rw [Nat.add_assoc, ← wt_l hc20]; rfl)) ?_
      refine lv_istore_n (lv' := [(3, .int (nI (lt + sm (fun i => wt o (posN o n0 i)) (k + 1)))), (4, .int (nI k)), (0, .ref b0), (1, .ref c0)]) hx hb dX0_priceOf_29 rfl hl (by decide) rfl (fun ls hl => ?_)
      refine lv_iinc (v := nI (k + 1)) (lv' := [(4, .int (nI (k + 1))), (3, .int (nI (lt + sm (fun i => wt o (posN o n0 i)) (k + 1)))), (0, .ref b0), (1, .ref c0)]) hx hb dX0_priceOf_30 hl (k := 1) rfl (z_inc _) (by decide) rfl (fun ls hl => ?_)
      refine lv_goto (tgt := 5) hx hb dX0_priceOf_33 (by decide) ?_
      exact ih5 (k + 1) ls (show manyN o n0 - (k + 1) < dd5 by omega) ⟨lv_sub hl [0, 1, 2, 3] rfl, (show (k + 1) ≤ manyN o n0 from by omega)⟩

