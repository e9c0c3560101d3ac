/-! what the small readers answer -/
def stB (f g : Nat → Int32) (i j n : Nat) : Bool := decide (∀ k, k < n → f (i + k) = g (j + k))
theorem stB_t {f g : Nat → Int32} {i j n : Nat} (h : ∀ k, k < n → f (i + k) = g (j + k)) : stB f g i j n = true := decide_eq_true h
theorem stB_f {f g : Nat → Int32} {i j n k : Nat} (hk : k < n) (h : ¬ f (i + k) = g (j + k)) : stB f g i j n = false := decide_eq_false (fun z => h (z k hk))
def eqB (f g : Nat → Int32) (n m : Nat) : Bool := n == m && stB f g 0 0 n

set_option maxHeartbeats 4000000 in
set_option maxRecDepth 100000 in
theorem c_X1_hasStretch (l : Launch) (D : va_G) (cs : Nat → ClassId) (h0 b0 h1 b1 n0 n1 : Nat) (f g : Nat → Int32) (i j n : Nat) (hi : i + n ≤ n0) (hj : j + n ≤ n1) (hn0 : n0 < 2 ^ 31) (hn1 : n1 < 2 ^ 31) : Met l yX1_hasStretch wsX1_hasStretch ({ frames := 0, cells := 0, slots := 0, locals := 0 }) (zP [.ref h0, .int (nI i), .ref h1, .int (nI j), .int (nI n)] (fun H => At D h0 (.inr (2, [.ref b0])) H ∧ At D b0 (fa cs n0 f) H ∧ At D h1 (.inr (2, [.ref b1])) H ∧ At D b1 (fa cs n1 g) H) D cs) (vp_Si (fun r => r = bI (stB f g i j n))) 0 0 (fun _ => False) := by
  refine Met.ofW (cc := cX1_hasStretch) (maxL := 6) (ret := (some .boolean)) (by decide) rfl ?_
  intro p e s m args below meth c s₁ B hml hv
  obtain ⟨rfl, hPH, hK⟩ := hv
  have hx := B.exec
  have hb := B.bytes
  have hr := B.returns
  have hts := atoms_spec (ws := wsX1_hasStretch) B.pre
  have hown : s.vm.findClass RX1 = some m.cls := findClass_of_methodNamed B.named
  have hlocks := B.notSynchronized
  have fl13 := hts (.fieldLink RX1 13 "DeltaUpdater$Row" "bytes" "[I") (by decide +kernel)
  have in2 : ∀ w ∈ u_ws RX1 TX1 1, w ∈ wsX1_hasStretch := by decide +kernel
  have hPH : At D h0 (.inr (2, [.ref b0])) s.heap ∧ At D b0 (fa cs n0 f) s.heap ∧ At D h1 (.inr (2, [.ref b1])) s.heap ∧ At D b1 (fa cs n1 g) s.heap := hPH
  obtain ⟨hr0, ha0, hr1, ha1⟩ := hPH
  have hl := lv_entry ([.ref h0, .int (nI i), .ref h1, .int (nI j), .int (nI n)]) (n := 6) (Nat.le_of_ble_eq_true rfl)
  rw [lg_entry_eq]
  generalize (lg_sl ([.ref h0, .int (nI i), .ref h1, .int (nI j), .int (nI n)]) ++ List.replicate (6 - (lg_sl ([.ref h0, .int (nI i), .ref h1, .int (nI j), .int (nI n)])).length) Slot.unset).toArray = ls at hl ⊢
  have hl : lv_has ls 6 [(0, .ref h0), (1, .int (nI i)), (2, .ref h1), (3, .int (nI j)), (4, .int (nI n))] := hl
  refine lv_iconst (v := nI 0) hx hb dX1_hasStretch_0 (by decide) ?_
  refine lv_istore (lv' := [(5, .int (nI 0)), (0, .ref h0), (1, .int (nI i)), (2, .ref h1), (3, .int (nI j)), (4, .int (nI n))]) hx hb dX1_hasStretch_1 hl (by decide) rfl (fun ls hl => ?_)
  refine z_loop (σ := Nat) (fun q9 => n - q9) (fun q9 ls => lv_has ls 6 [(5, .int (nI q9)), (0, .ref h0), (1, .int (nI i)), (2, .ref h1), (3, .int (nI j)), (4, .int (nI n))] ∧ q9 ≤ n ∧ ∀ z, z < q9 → f (i + z) = g (j + z)) 0 ⟨lv_sub hl [0, 1, 2, 3, 4, 5] rfl, (show 0 ≤ n from by omega), (show ∀ z, z < 0 → f (i + z) = g (j + z) from fun z hz => absurd hz (Nat.not_lt_zero z))⟩ (fun dd3 ih3 y9 ls hd9 hI9 => ?_)
  obtain ⟨k, rfl⟩ : ∃ z, z = y9 := ⟨_, rfl⟩
  have hd3 : n - k = dd3 := hd9
  have hI9 : lv_has ls 6 [(5, .int (nI k)), (0, .ref h0), (1, .int (nI i)), (2, .ref h1), (3, .int (nI j)), (4, .int (nI n))] ∧ k ≤ n ∧ ∀ z, z < k → f (i + z) = g (j + z) := hI9
  obtain ⟨hl, hk, hall⟩ := hI9
  refine lv_iload hx hb dX1_hasStretch_3 (lv_at hl 0 rfl) ?_
  refine lv_iload hx hb dX1_hasStretch_5 (lv_at hl 5 rfl) ?_
  refine z_icmp_ge (tgt := 39) hx hb (by omega) (by omega) dX1_hasStretch_7 (by decide) (fun hc7 => ?_) (fun hc7 => ?_)
  · skip
    have hc7 : n ≤ k := hc7
    refine lv_iconst (v := nI 1) hx hb dX1_hasStretch_39 (by decide) ?_
    exact W.zret (v := nI 1) hx hb hr rfl (fun t ht hW => ⟨_, rfl, (by rw [stB_t (fun z hz => hall z (by omega))]; rfl), ht⟩) (fun q hq => absurd hq List.not_mem_nil) dX1_hasStretch_40
  · skip
    have hc7 : k < n := hc7
    refine lv_aload_n hx hb dX1_hasStretch_10 rfl (lv_at hl 1 rfl) ?_
    refine z_get (ci := 2) (v := .ref b0) (C := RX1) (T := TX1) (N := 1) hx hb hts in2 hown hK hr0 rfl 0 (by decide) fl13 (fun _ h9 => h9) rfl dX1_hasStretch_11 ?_
    refine lv_iload_n hx hb dX1_hasStretch_14 rfl (lv_at hl 2 rfl) ?_
    refine lv_iload hx hb dX1_hasStretch_15 (lv_at hl 0 rfl) ?_
    refine lv_iadd hx hb dX1_hasStretch_17 ?_
    refine zti (nI_add _ _) (y := nI (i + k)) ?_
    refine z_iald (k := (i + k)) (f := f) hx hb hK ha0 (by omega) (by omega) dX1_hasStretch_18 ?_
    refine lv_aload_n hx hb dX1_hasStretch_19 rfl (lv_at hl 3 rfl) ?_
    refine z_get (ci := 2) (v := .ref b1) (C := RX1) (T := TX1) (N := 1) hx hb hts in2 hown hK hr1 rfl 0 (by decide) fl13 (fun _ h9 => h9) rfl dX1_hasStretch_20 ?_
    refine lv_iload_n hx hb dX1_hasStretch_23 rfl (lv_at hl 4 rfl) ?_
    refine lv_iload hx hb dX1_hasStretch_24 (lv_at hl 0 rfl) ?_
    refine lv_iadd hx hb dX1_hasStretch_26 ?_
    refine zti (nI_add _ _) (y := nI (j + k)) ?_
    refine z_iald (k := (j + k)) (f := g) hx hb hK ha1 (by omega) (by omega) dX1_hasStretch_27 ?_
    refine lv_icmp_eq (tgt := 33) hx hb dX1_hasStretch_28 (by decide) (fun hc28 => ?_) (fun hc28 => ?_)
    · skip
      have hc28 : (f (i + k)) = (g (j + k)) := hc28
      refine lv_iinc (v := nI (k + 1)) (lv' := [(5, .int (nI (k + 1))), (0, .ref h0), (1, .int (nI i)), (2, .ref h1), (3, .int (nI j)), (4, .int (nI n))]) hx hb dX1_hasStretch_33 hl (k := 0) rfl (z_inc _) (by decide) rfl (fun ls hl => ?_)
      refine lv_goto (tgt := 3) hx hb dX1_hasStretch_36 (by decide) ?_
      exact ih3 (k + 1) ls (show n - (k + 1) < dd3 by omega) ⟨lv_sub hl [0, 1, 2, 3, 4, 5] rfl, (show (k + 1) ≤ n from by omega), (show ∀ z, z < (k + 1) → f (i + z) = g (j + z) from fun z hz => (Nat.lt_succ_iff_lt_or_eq.mp hz).elim (hall z) (fun e9 => by rw [e9]; exact hc28))⟩
    · skip
      have hc28 : ¬ (f (i + k)) = (g (j + k)) := hc28
      refine lv_iconst (v := nI 0) hx hb dX1_hasStretch_31 (by decide) ?_
      exact W.zret (v := nI 0) hx hb hr rfl (fun t ht hW => ⟨_, rfl, (by rw [stB_f (k := k) (by omega) hc28]; rfl), ht⟩) (fun q hq => absurd hq List.not_mem_nil) dX1_hasStretch_32

set_option maxHeartbeats 4000000 in
set_option maxRecDepth 100000 in
theorem c_X1_hasBytesOf (l : Launch) (D : va_G) (cs : Nat → ClassId) (h0 b0 h1 b1 n0 n1 : Nat) (f g : Nat → Int32) (hn0 : n0 < 2 ^ 31) (hn1 : n1 < 2 ^ 31) : Met l yX1_hasBytesOf wsX1_hasBytesOf ({ frames := 1, cells := 0, slots := 0, locals := 25 }) (zP [.ref h0, .ref h1] (fun H => At D h0 (.inr (2, [.ref b0])) H ∧ At D b0 (fa cs n0 f) H ∧ At D h1 (.inr (2, [.ref b1])) H ∧ At D b1 (fa cs n1 g) H) D cs) (vp_Si (fun r => r = bI (eqB f g n0 n1))) 0 0 (fun _ => False) := by
  refine Met.ofW (cc := cX1_hasBytesOf) (maxL := 2) (ret := (some .boolean)) (by decide) rfl ?_
  intro p e s m args below meth c s₁ B hml hv
  obtain ⟨rfl, hPH, hK⟩ := hv
  have hx := B.exec
  have hb := B.bytes
  have hr := B.returns
  have hts := atoms_spec (ws := wsX1_hasBytesOf) B.pre
  have hown : s.vm.findClass RX1 = some m.cls := findClass_of_methodNamed B.named
  have hlocks := B.notSynchronized
  have fl13 := hts (.fieldLink RX1 13 "DeltaUpdater$Row" "bytes" "[I") (by decide +kernel)
  have in2 : ∀ w ∈ u_ws RX1 TX1 1, w ∈ wsX1_hasBytesOf := by decide +kernel
  have hPH : At D h0 (.inr (2, [.ref b0])) s.heap ∧ At D b0 (fa cs n0 f) s.heap ∧ At D h1 (.inr (2, [.ref b1])) s.heap ∧ At D b1 (fa cs n1 g) s.heap := hPH
  obtain ⟨hr0, ha0, hr1, ha1⟩ := hPH
  have hl := lv_entry ([.ref h0, .ref h1]) (n := 2) (Nat.le_of_ble_eq_true rfl)
  rw [lg_entry_eq]
  generalize (lg_sl ([.ref h0, .ref h1]) ++ List.replicate (2 - (lg_sl ([.ref h0, .ref h1])).length) Slot.unset).toArray = ls at hl ⊢
  have hl : lv_has ls 2 [(0, .ref h0), (1, .ref h1)] := hl
  refine lv_aload_n hx hb dX1_hasBytesOf_0 rfl (lv_at hl 0 rfl) ?_
  refine z_get (ci := 2) (v := .ref b0) (C := RX1) (T := TX1) (N := 1) hx hb hts in2 hown hK hr0 rfl 0 (by decide) fl13 (fun _ h9 => h9) rfl dX1_hasBytesOf_1 ?_
  refine z_alen (n := n0) hx hb hK ha0 dX1_hasBytesOf_4 ?_
  refine lv_aload_n hx hb dX1_hasBytesOf_5 rfl (lv_at hl 1 rfl) ?_
  refine z_get (ci := 2) (v := .ref b1) (C := RX1) (T := TX1) (N := 1) hx hb hts in2 hown hK hr1 rfl 0 (by decide) fl13 (fun _ h9 => h9) rfl dX1_hasBytesOf_6 ?_
  refine z_alen (n := n1) hx hb hK ha1 dX1_hasBytesOf_9 ?_
  refine z_icmp_ne (tgt := 32) hx hb (by omega) (by omega) dX1_hasBytesOf_10 (by decide) (fun hc10 => ?_) (fun hc10 => ?_)
  · skip
    have hc10 : ¬ n0 = n1 := hc10
    refine lv_iconst (v := nI 0) hx hb dX1_hasBytesOf_32 (by decide) ?_
    exact W.zret (v := nI 0) hx hb hr rfl (fun t ht hW => ⟨_, rfl, (by unfold eqB; rw [beq_eq_false_iff_ne.mpr hc10]; rfl), ht⟩) (fun q hq => absurd hq List.not_mem_nil) dX1_hasBytesOf_33
  · skip
    have hc10 : n0 = n1 := hc10
    refine lv_aload_n hx hb dX1_hasBytesOf_13 rfl (lv_at hl 0 rfl) ?_
    refine lv_iconst (v := nI 0) hx hb dX1_hasBytesOf_14 (by decide) ?_
    refine lv_aload_n hx hb dX1_hasBytesOf_15 rfl (lv_at hl 1 rfl) ?_
    refine lv_iconst (v := nI 0) hx hb dX1_hasBytesOf_16 (by decide) ?_
    refine lv_aload_n hx hb dX1_hasBytesOf_17 rfl (lv_at hl 0 rfl) ?_
    refine z_get (ci := 2) (v := .ref b0) (C := RX1) (T := TX1) (N := 1) hx hb hts in2 hown hK hr0 rfl 0 (by decide) fl13 (fun _ h9 => h9) rfl dX1_hasBytesOf_18 ?_
    refine z_alen (n := n0) hx hb hK ha0 dX1_hasBytesOf_21 ?_
    refine z_csV (As := [.int (nI 0), .ref h1, .int (nI 0), .int (nI n0)]) (rest := []) ⟨hx, hb, hml, hown, hts⟩ (c_X1_hasStretch l D cs h0 b0 h1 b1 n0 n1 f g 0 0 n0 (by omega) (by omega) hn0 hn1) (cwV 4 hts gX1_hasBytesOf_X1_hasStretch rfl rfl rfl (by decide +kernel) ⟨Nat.le_of_ble_eq_true rfl, Nat.le_of_ble_eq_true rfl⟩) hr0 rfl ⟨hr0, ha0, hr1, ha1⟩ hK rfl hl.1 rfl (Nat.le_of_ble_eq_true rfl) dX1_hasBytesOf_22 ⟨Nat.zero_le _, Nat.zero_le _⟩ (fun r hq9 => ?_)
    have hq9 : r = bI (stB f g 0 0 n0) := hq9
    subst hq9
    refine z_ifb_eq (tgt := 32) hx hb dX1_hasBytesOf_25 (by decide) (fun hc25 => ?_) (fun hc25 => ?_)
    · skip
      have hc25 : (stB f g 0 0 n0) = false := hc25
      refine lv_iconst (v := nI 0) hx hb dX1_hasBytesOf_32 (by decide) ?_
      exact W.zret (v := nI 0) hx hb hr rfl (fun t ht hW => ⟨_, rfl, (by unfold eqB; rw [hc25, Bool.and_false]; rfl), ht⟩) (fun q hq => absurd hq List.not_mem_nil) dX1_hasBytesOf_33
    · skip
      have hc25 : (stB f g 0 0 n0) = true := hc25
      refine lv_iconst (v := nI 1) hx hb dX1_hasBytesOf_28 (by decide) ?_
      refine lv_goto (tgt := 33) hx hb dX1_hasBytesOf_29 (by decide) ?_
      exact W.zret (v := nI 1) hx hb hr rfl (fun t ht hW => ⟨_, rfl, (by unfold eqB; rw [hc25, Bool.and_true, beq_iff_eq.mpr hc10]; rfl), ht⟩) (fun q hq => absurd hq List.not_mem_nil) dX1_hasBytesOf_33

