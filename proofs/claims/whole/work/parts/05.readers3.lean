/-! readers of numbers, third part -/
theorem stB_succ (f g : Nat → Int32) (i j k : Nat) : stB f g i j (k + 1) = (stB f g i j k && decide (f (i + k) = g (j + k))) := by
  by_cases h : f (i + k) = g (j + k)
  · by_cases q : ∀ z, z < k → f (i + z) = g (j + z)
    · rw [stB_t q, stB_t (fun z hz => (Nat.lt_succ_iff_lt_or_eq.mp hz).elim (q z) (fun e => by rw [e]; exact h)), decide_eq_true h]; rfl
    · have h1 : stB f g i j k = false := decide_eq_false q
      have h2 : stB f g i j (k + 1) = false := decide_eq_false (fun z => q (fun y hy => z y (by omega)))
      rw [h1, h2]; rfl
  · rw [stB_f (k := k) (Nat.lt_succ_self k) h, decide_eq_false h, Bool.and_false]
theorem stB_0 (f g : Nat → Int32) (i j : Nat) : stB f g i j 0 = true := stB_t (fun k hk => absurd hk (Nat.not_lt_zero k))
theorem stB_mono {f g : Nat → Int32} {i j k n : Nat} (h : stB f g i j k = false) (hk : k ≤ n) : stB f g i j n = false := by
  cases h2 : stB f g i j n with
  | false => rfl
  | true =>
    have h3 := of_decide_eq_true h2
    rw [stB_t (fun z hz => h3 z (by omega))] at h
    cases h
theorem eqB_mono {f g : Nat → Int32} {k n0 n1 : Nat} (h : (n0 == n1 && stB f g 0 0 k) = false) (hk : k ≤ n0) : eqB f g n0 n1 = false := by
  unfold eqB
  rcases Bool.and_eq_false_iff.mp h with q | q
  · rw [q]; rfl
  · rw [stB_mono q hk, Bool.and_false]
theorem z_lft {i t : Nat} (hi : i < 2 ^ 30) (ht : t < 2 ^ 30) : nI i - nI t < 0 ↔ i < t := by
  rw [Int32.lt_iff_toInt_lt, pk_sub_toInt hi ht, show (0 : Int32).toInt = 0 from rfl]; omega
theorem z_lfd (i t : Nat) : nI i - nI t + Int32.ofInt (-1) = nI i - nI (t + 1) := by
  rw [← nI_1, show Int32.ofInt (-1) = -1 from rfl]
  rw [Int32.sub_eq_add_neg, Int32.sub_eq_add_neg, Int32.neg_add]
  rw [Int32.add_assoc, ← Int32.sub_eq_add_neg]
theorem z_bk (F : Nat) : nI F - nI 1 + Int32.ofInt 1 = nI F := Int32.sub_add_cancel _ _
theorem z_bk1 {F : Nat} (h : 0 < F) : nI F - nI 1 = nI (F - 1) := pk_sub h

set_option maxHeartbeats 4000000 in
set_option maxRecDepth 100000 in
theorem c_X3_are (l : Launch) (D : va_G) (cs : Nat → ClassId) (b0 b1 n0 n1 : Nat) (f g : Nat → Int32) (hn0 : n0 < 2 ^ 31) (hn1 : n1 < 2 ^ 31) : Met l yX3_are wsX3_are ({ frames := 0, cells := 0, slots := 0, locals := 0 }) (zP [.ref b0, .ref b1] (fun H => At D b0 (fa cs n0 f) H ∧ At D b1 (fa cs n1 g) H) D cs) (vp_Si (fun r => r = bI (eqB f g n0 n1))) 0 0 (fun _ => False) := by
  refine Met.ofW (cc := cX3_are) (maxL := 4) (ret := (some .boolean)) (by decide) rfl ?_
  intro p e s m args below meth c s₁ B hml hv
  obtain ⟨rfl, hPH, hK⟩ := hv
  have hx := B.exec
  have hb := B.bytes
  have hr := B.returns
  have hts := atoms_spec (ws := wsX3_are) B.pre
  have hown : s.vm.findClass RX3 = some m.cls := findClass_of_methodNamed B.named
  have hlocks := B.notSynchronized
  have hPH : At D b0 (fa cs n0 f) s.heap ∧ At D b1 (fa cs n1 g) s.heap := hPH
  obtain ⟨ha0, ha1⟩ := hPH
  have hl := lv_entry ([.ref b0, .ref b1]) (n := 4) (Nat.le_of_ble_eq_true rfl)
  rw [lg_entry_eq]
  generalize (lg_sl ([.ref b0, .ref b1]) ++ List.replicate (4 - (lg_sl ([.ref b0, .ref b1])).length) Slot.unset).toArray = ls at hl ⊢
  have hl : lv_has ls 4 [(0, .ref b0), (1, .ref b1)] := hl
  have hk1 : n0 - 0 ≤ n0 := Nat.sub_le _ _
  refine lv_aload_n hx hb dX3_are_0 rfl (lv_at hl 0 rfl) ?_
  refine z_alen (n := n0) hx hb hK ha0 dX3_are_1 ?_
  refine lv_aload_n hx hb dX3_are_2 rfl (lv_at hl 1 rfl) ?_
  refine z_alen (n := n1) hx hb hK ha1 dX3_are_3 ?_
  refine z_icmp_ne (tgt := 11) hx hb (by omega) (by omega) dX3_are_4 (by decide) (fun hc4 => ?_) (fun hc4 => ?_)
  · skip
    have hc4 : ¬ n0 = n1 := hc4
    refine lv_iconst (v := nI 0) hx hb dX3_are_11 (by decide) ?_
    refine zti (y := bI false) rfl ?_
    refine lv_istore_n (lv' := [(2, .int (bI false)), (0, .ref b0), (1, .ref b1)]) hx hb dX3_are_12 rfl hl (by decide) rfl (fun ls hl => ?_)
    refine lv_iconst (v := nI 0) hx hb dX3_are_13 (by decide) ?_
    refine lv_istore_n (lv' := [(3, .int (nI 0)), (2, .int (bI false)), (0, .ref b0), (1, .ref b1)]) hx hb dX3_are_14 rfl hl (by decide) rfl (fun ls hl => ?_)
    refine z_loop (σ := Nat × Bool) (fun q9 => n0 - q9.1) (fun q9 ls => lv_has ls 4 [(2, .int (bI q9.2)), (3, .int (nI q9.1)), (0, .ref b0), (1, .ref b1)] ∧ q9.1 ≤ n0 ∧ q9.2 = (n0 == n1 && stB f g 0 0 q9.1)) (0, false) ⟨lv_sub hl [1, 0, 2, 3] rfl, (show 0 ≤ n0 from by omega), (show false = (n0 == n1 && stB f g 0 0 0) from by rw [beq_eq_false_iff_ne.mpr hc4]; rfl)⟩ (fun dd15 ih15 y9 ls hd9 hI9 => ?_)
    obtain ⟨k, q⟩ := y9
    have hd15 : n0 - k = dd15 := hd9
    have hI9 : lv_has ls 4 [(2, .int (bI q)), (3, .int (nI k)), (0, .ref b0), (1, .ref b1)] ∧ k ≤ n0 ∧ q = (n0 == n1 && stB f g 0 0 k) := hI9
    obtain ⟨hl, hk, hq⟩ := hI9
    refine lv_iload_n hx hb dX3_are_15 rfl (lv_at hl 1 rfl) ?_
    refine lv_aload_n hx hb dX3_are_16 rfl (lv_at hl 2 rfl) ?_
    refine z_alen (n := n0) hx hb hK ha0 dX3_are_17 ?_
    refine z_icmp_ge (tgt := 46) hx hb (by omega) (by omega) dX3_are_18 (by decide) (fun hc18 => ?_) (fun hc18 => ?_)
    · skip
      have hc18 : n0 ≤ k := hc18
      refine lv_iload_n hx hb dX3_are_46 rfl (lv_at hl 0 rfl) ?_
      exact W.zret (v := bI q) hx hb hr (bI_nar _) (fun t ht hW => ⟨_, rfl, (by rw [hq, show k = n0 by omega]; rfl), ht⟩) (fun q hq => absurd hq List.not_mem_nil) dX3_are_47
    · skip
      have hc18 : k < n0 := hc18
      refine lv_iload_n hx hb dX3_are_21 rfl (lv_at hl 0 rfl) ?_
      refine z_ifb_eq (tgt := 46) hx hb dX3_are_22 (by decide) (fun hc22 => ?_) (fun hc22 => ?_)
      · skip
        have hc22 : q = false := hc22
        refine lv_iload_n hx hb dX3_are_46 rfl (lv_at hl 0 rfl) ?_
        exact W.zret (v := bI q) hx hb hr (bI_nar _) (fun t ht hW => ⟨_, rfl, (by rw [hc22, eqB_mono (k := k) (by rw [← hq, hc22]) hk]), ht⟩) (fun q hq => absurd hq List.not_mem_nil) dX3_are_47
      · skip
        have hc22 : q = true := hc22
        have he9 : n0 = n1 := by have h9 := hq; rw [hc22] at h9; exact beq_iff_eq.mp (Bool.and_eq_true_iff.mp h9.symm).1
        refine lv_aload_n hx hb dX3_are_25 rfl (lv_at hl 2 rfl) ?_
        refine lv_iload_n hx hb dX3_are_26 rfl (lv_at hl 1 rfl) ?_
        refine z_iald (k := k) (f := f) hx hb hK ha0 (by omega) (by omega) dX3_are_27 ?_
        refine lv_aload_n hx hb dX3_are_28 rfl (lv_at hl 3 rfl) ?_
        refine lv_iload_n hx hb dX3_are_29 rfl (lv_at hl 1 rfl) ?_
        refine z_iald (k := k) (f := g) hx hb hK ha1 (by omega) (by omega) dX3_are_30 ?_
        refine lv_icmp_ne (tgt := 38) hx hb dX3_are_31 (by decide) (fun hc31 => ?_) (fun hc31 => ?_)
        · skip
          have hc31 : ¬ (f k) = (g k) := hc31
          refine lv_iconst (v := nI 0) hx hb dX3_are_38 (by decide) ?_
          refine zti (y := bI false) rfl ?_
          refine lv_istore_n (lv' := [(2, .int (bI false)), (3, .int (nI k)), (0, .ref b0), (1, .ref b1)]) hx hb dX3_are_39 rfl hl (by decide) rfl (fun ls hl => ?_)
          refine lv_iinc (v := nI (k + 1)) (lv' := [(3, .int (nI (k + 1))), (2, .int (bI false)), (0, .ref b0), (1, .ref b1)]) hx hb dX3_are_40 hl (k := 1) rfl (z_inc _) (by decide) rfl (fun ls hl => ?_)
          refine lv_goto (tgt := 15) hx hb dX3_are_43 (by decide) ?_
          exact ih15 ((k + 1), false) ls (show n0 - (k + 1) < dd15 by omega) ⟨lv_sub hl [1, 0, 2, 3] rfl, (show (k + 1) ≤ n0 from by omega), (show false = (n0 == n1 && stB f g 0 0 (k + 1)) from by rw [stB_succ, Nat.zero_add, decide_eq_false hc31, Bool.and_false, Bool.and_false])⟩
        · skip
          have hc31 : (f k) = (g k) := hc31
          refine lv_iconst (v := nI 1) hx hb dX3_are_34 (by decide) ?_
          refine lv_goto (tgt := 39) hx hb dX3_are_35 (by decide) ?_
          refine zti (y := bI true) rfl ?_
          refine lv_istore_n (lv' := [(2, .int (bI true)), (3, .int (nI k)), (0, .ref b0), (1, .ref b1)]) hx hb dX3_are_39 rfl hl (by decide) rfl (fun ls hl => ?_)
          refine lv_iinc (v := nI (k + 1)) (lv' := [(3, .int (nI (k + 1))), (2, .int (bI true)), (0, .ref b0), (1, .ref b1)]) hx hb dX3_are_40 hl (k := 1) rfl (z_inc _) (by decide) rfl (fun ls hl => ?_)
          refine lv_goto (tgt := 15) hx hb dX3_are_43 (by decide) ?_
          exact ih15 ((k + 1), true) ls (show n0 - (k + 1) < dd15 by omega) ⟨lv_sub hl [1, 0, 2, 3] rfl, (show (k + 1) ≤ n0 from by omega), (show true = (n0 == n1 && stB f g 0 0 (k + 1)) from by rw [stB_succ, ← Bool.and_assoc, ← hq, hc22, Nat.zero_add, decide_eq_true hc31]; rfl)⟩
  · skip
    have hc4 : n0 = n1 := hc4
    refine lv_iconst (v := nI 1) hx hb dX3_are_7 (by decide) ?_
    refine lv_goto (tgt := 12) hx hb dX3_are_8 (by decide) ?_
    refine zti (y := bI true) rfl ?_
    refine lv_istore_n (lv' := [(2, .int (bI true)), (0, .ref b0), (1, .ref b1)]) hx hb dX3_are_12 rfl hl (by decide) rfl (fun ls hl => ?_)
    refine lv_iconst (v := nI 0) hx hb dX3_are_13 (by decide) ?_
    refine lv_istore_n (lv' := [(3, .int (nI 0)), (2, .int (bI true)), (0, .ref b0), (1, .ref b1)]) hx hb dX3_are_14 rfl hl (by decide) rfl (fun ls hl => ?_)
    refine z_loop (σ := Nat × Bool) (fun q9 => n0 - q9.1) (fun q9 ls => lv_has ls 4 [(2, .int (bI q9.2)), (3, .int (nI q9.1)), (0, .ref b0), (1, .ref b1)] ∧ q9.1 ≤ n0 ∧ q9.2 = (n0 == n1 && stB f g 0 0 q9.1)) (0, true) ⟨lv_sub hl [1, 0, 2, 3] rfl, (show 0 ≤ n0 from by omega), (show true = (n0 == n1 && stB f g 0 0 0) from by rw [stB_0, Bool.and_true]; exact (beq_iff_eq.mpr hc4).symm)⟩ (fun dd15 ih15 y9 ls hd9 hI9 => ?_)
    obtain ⟨k, q⟩ := y9
    have hd15 : n0 - k = dd15 := hd9
    have hI9 : lv_has ls 4 [(2, .int (bI q)), (3, .int (nI k)), (0, .ref b0), (1, .ref b1)] ∧ k ≤ n0 ∧ q = (n0 == n1 && stB f g 0 0 k) := hI9
    obtain ⟨hl, hk, hq⟩ := hI9
    refine lv_iload_n hx hb dX3_are_15 rfl (lv_at hl 1 rfl) ?_
    refine lv_aload_n hx hb dX3_are_16 rfl (lv_at hl 2 rfl) ?_
    refine z_alen (n := n0) hx hb hK ha0 dX3_are_17 ?_
    refine z_icmp_ge (tgt := 46) hx hb (by omega) (by omega) dX3_are_18 (by decide) (fun hc18 => ?_) (fun hc18 => ?_)
    · skip
      have hc18 : n0 ≤ k := hc18
      refine lv_iload_n hx hb dX3_are_46 rfl (lv_at hl 0 rfl) ?_
      exact W.zret (v := bI q) hx hb hr (bI_nar _) (fun t ht hW => ⟨_, rfl, (by rw [hq, show k = n0 by omega]; rfl), ht⟩) (fun q hq => absurd hq List.not_mem_nil) dX3_are_47
    · skip
      have hc18 : k < n0 := hc18
      refine lv_iload_n hx hb dX3_are_21 rfl (lv_at hl 0 rfl) ?_
      refine z_ifb_eq (tgt := 46) hx hb dX3_are_22 (by decide) (fun hc22 => ?_) (fun hc22 => ?_)
      · skip
        have hc22 : q = false := hc22
        refine lv_iload_n hx hb dX3_are_46 rfl (lv_at hl 0 rfl) ?_
        exact W.zret (v := bI q) hx hb hr (bI_nar _) (fun t ht hW => ⟨_, rfl, (by rw [hc22, eqB_mono (k := k) (by rw [← hq, hc22]) hk]), ht⟩) (fun q hq => absurd hq List.not_mem_nil) dX3_are_47
      · skip
        have hc22 : q = true := hc22
        have he9 : n0 = n1 := by have h9 := hq; rw [hc22] at h9; exact beq_iff_eq.mp (Bool.and_eq_true_iff.mp h9.symm).1
        refine lv_aload_n hx hb dX3_are_25 rfl (lv_at hl 2 rfl) ?_
        refine lv_iload_n hx hb dX3_are_26 rfl (lv_at hl 1 rfl) ?_
        refine z_iald (k := k) (f := f) hx hb hK ha0 (by omega) (by omega) dX3_are_27 ?_
        refine lv_aload_n hx hb dX3_are_28 rfl (lv_at hl 3 rfl) ?_
        refine lv_iload_n hx hb dX3_are_29 rfl (lv_at hl 1 rfl) ?_
        refine z_iald (k := k) (f := g) hx hb hK ha1 (by omega) (by omega) dX3_are_30 ?_
        refine lv_icmp_ne (tgt := 38) hx hb dX3_are_31 (by decide) (fun hc31 => ?_) (fun hc31 => ?_)
        · skip
          have hc31 : ¬ (f k) = (g k) := hc31
          refine lv_iconst (v := nI 0) hx hb dX3_are_38 (by decide) ?_
          refine zti (y := bI false) rfl ?_
          refine lv_istore_n (lv' := [(2, .int (bI false)), (3, .int (nI k)), (0, .ref b0), (1, .ref b1)]) hx hb dX3_are_39 rfl hl (by decide) rfl (fun ls hl => ?_)
          refine lv_iinc (v := nI (k + 1)) (lv' := [(3, .int (nI (k + 1))), (2, .int (bI false)), (0, .ref b0), (1, .ref b1)]) hx hb dX3_are_40 hl (k := 1) rfl (z_inc _) (by decide) rfl (fun ls hl => ?_)
          refine lv_goto (tgt := 15) hx hb dX3_are_43 (by decide) ?_
          exact ih15 ((k + 1), false) ls (show n0 - (k + 1) < dd15 by omega) ⟨lv_sub hl [1, 0, 2, 3] rfl, (show (k + 1) ≤ n0 from by omega), (show false = (n0 == n1 && stB f g 0 0 (k + 1)) from by rw [stB_succ, Nat.zero_add, decide_eq_false hc31, Bool.and_false, Bool.and_false])⟩
        · skip
          have hc31 : (f k) = (g k) := hc31
          refine lv_iconst (v := nI 1) hx hb dX3_are_34 (by decide) ?_
          refine lv_goto (tgt := 39) hx hb dX3_are_35 (by decide) ?_
          refine zti (y := bI true) rfl ?_
          refine lv_istore_n (lv' := [(2, .int (bI true)), (3, .int (nI k)), (0, .ref b0), (1, .ref b1)]) hx hb dX3_are_39 rfl hl (by decide) rfl (fun ls hl => ?_)
          refine lv_iinc (v := nI (k + 1)) (lv' := [(3, .int (nI (k + 1))), (2, .int (bI true)), (0, .ref b0), (1, .ref b1)]) hx hb dX3_are_40 hl (k := 1) rfl (z_inc _) (by decide) rfl (fun ls hl => ?_)
          refine lv_goto (tgt := 15) hx hb dX3_are_43 (by decide) ?_
          exact ih15 ((k + 1), true) ls (show n0 - (k + 1) < dd15 by omega) ⟨lv_sub hl [1, 0, 2, 3] rfl, (show (k + 1) ≤ n0 from by omega), (show true = (n0 == n1 && stB f g 0 0 (k + 1)) from by rw [stB_succ, ← Bool.and_assoc, ← hq, hc22, Nat.zero_add, decide_eq_true hc31]; rfl)⟩

set_option maxHeartbeats 4000000 in
set_option maxRecDepth 100000 in
theorem c_X3_isLike (l : Launch) (D : va_G) (cs : Nat → ClassId) (b0 b1 n0 n1 : Nat) (f g : Nat → Int32) (i j n : Nat) (hi : i + n ≤ n0) (hj : j + n ≤ n1) (hn0 : n0 < 2 ^ 31) (hn1 : n1 < 2 ^ 31) : Met l yX3_isLike wsX3_isLike ({ frames := 0, cells := 0, slots := 0, locals := 0 }) (zP [.ref b0, .int (nI i), .ref b1, .int (nI j), .int (nI n)] (fun H => At D b0 (fa cs n0 f) H ∧ At D b1 (fa cs n1 g) H) D cs) (vp_Si (fun r => r = bI (stB f g i j n))) 0 0 (fun _ => False) := by
  refine Met.ofW (cc := cX3_isLike) (maxL := 7) (ret := (some .boolean)) (by decide) rfl ?_
  intro p e s m args below meth c s₁ B hml hv
  obtain ⟨rfl, hPH, hK⟩ := hv
  have hx := B.exec
  have hb := B.bytes
  have hr := B.returns
  have hts := atoms_spec (ws := wsX3_isLike) B.pre
  have hown : s.vm.findClass RX3 = some m.cls := findClass_of_methodNamed B.named
  have hlocks := B.notSynchronized
  have hPH : At D b0 (fa cs n0 f) s.heap ∧ At D b1 (fa cs n1 g) s.heap := hPH
  obtain ⟨ha0, ha1⟩ := hPH
  have hl := lv_entry ([.ref b0, .int (nI i), .ref b1, .int (nI j), .int (nI n)]) (n := 7) (Nat.le_of_ble_eq_true rfl)
  rw [lg_entry_eq]
  generalize (lg_sl ([.ref b0, .int (nI i), .ref b1, .int (nI j), .int (nI n)]) ++ List.replicate (7 - (lg_sl ([.ref b0, .int (nI i), .ref b1, .int (nI j), .int (nI n)])).length) Slot.unset).toArray = ls at hl ⊢
  have hl : lv_has ls 7 [(0, .ref b0), (1, .int (nI i)), (2, .ref b1), (3, .int (nI j)), (4, .int (nI n))] := hl
  refine lv_iconst (v := nI 1) hx hb dX3_isLike_0 (by decide) ?_
  refine zti (y := bI true) rfl ?_
  refine lv_istore (lv' := [(5, .int (bI true)), (0, .ref b0), (1, .int (nI i)), (2, .ref b1), (3, .int (nI j)), (4, .int (nI n))]) hx hb dX3_isLike_1 hl (by decide) rfl (fun ls hl => ?_)
  refine lv_iconst (v := nI 0) hx hb dX3_isLike_3 (by decide) ?_
  refine lv_istore (lv' := [(6, .int (nI 0)), (5, .int (bI true)), (0, .ref b0), (1, .int (nI i)), (2, .ref b1), (3, .int (nI j)), (4, .int (nI n))]) hx hb dX3_isLike_4 hl (by decide) rfl (fun ls hl => ?_)
  refine z_loop (σ := Nat × Bool) (fun q9 => n - q9.1) (fun q9 ls => lv_has ls 7 [(5, .int (bI q9.2)), (6, .int (nI q9.1)), (0, .ref b0), (1, .int (nI i)), (2, .ref b1), (3, .int (nI j)), (4, .int (nI n))] ∧ q9.1 ≤ n ∧ q9.2 = stB f g i j q9.1) (0, true) ⟨lv_sub hl [1, 0, 2, 3, 4, 5, 6] rfl, (show 0 ≤ n from by omega), (show true = stB f g i j 0 from (stB_0 _ _ _ _).symm)⟩ (fun dd6 ih6 y9 ls hd9 hI9 => ?_)
  obtain ⟨k, q⟩ := y9
  have hd6 : n - k = dd6 := hd9
  have hI9 : lv_has ls 7 [(5, .int (bI q)), (6, .int (nI k)), (0, .ref b0), (1, .int (nI i)), (2, .ref b1), (3, .int (nI j)), (4, .int (nI n))] ∧ k ≤ n ∧ q = stB f g i j k := hI9
  obtain ⟨hl, hk, hq⟩ := hI9
  refine lv_iload hx hb dX3_isLike_6 (lv_at hl 1 rfl) ?_
  refine lv_iload hx hb dX3_isLike_8 (lv_at hl 6 rfl) ?_
  refine z_icmp_ge (tgt := 46) hx hb (by omega) (by omega) dX3_isLike_10 (by decide) (fun hc10 => ?_) (fun hc10 => ?_)
  · skip
    have hc10 : n ≤ k := hc10
    refine lv_iload hx hb dX3_isLike_46 (lv_at hl 0 rfl) ?_
    exact W.zret (v := bI q) hx hb hr (bI_nar _) (fun t ht hW => ⟨_, rfl, (by rw [hq, show k = n by omega]), ht⟩) (fun q hq => absurd hq List.not_mem_nil) dX3_isLike_48
  · skip
    have hc10 : k < n := hc10
    refine lv_iload hx hb dX3_isLike_13 (lv_at hl 0 rfl) ?_
    refine z_ifb_eq (tgt := 46) hx hb dX3_isLike_15 (by decide) (fun hc15 => ?_) (fun hc15 => ?_)
    · skip
      have hc15 : q = false := hc15
      refine lv_iload hx hb dX3_isLike_46 (lv_at hl 0 rfl) ?_
      exact W.zret (v := bI q) hx hb hr (bI_nar _) (fun t ht hW => ⟨_, rfl, (by rw [hc15, stB_mono (k := k) (by rw [← hq, hc15]) hk]), ht⟩) (fun q hq => absurd hq List.not_mem_nil) dX3_isLike_48
    · skip
      have hc15 : q = true := hc15
      refine lv_aload_n hx hb dX3_isLike_18 rfl (lv_at hl 2 rfl) ?_
      refine lv_iload_n hx hb dX3_isLike_19 rfl (lv_at hl 3 rfl) ?_
      refine lv_iload hx hb dX3_isLike_20 (lv_at hl 1 rfl) ?_
      refine lv_iadd hx hb dX3_isLike_22 ?_
      refine zti (nI_add _ _) (y := nI (i + k)) ?_
      refine z_iald (k := (i + k)) (f := f) hx hb hK ha0 (by omega) (by omega) dX3_isLike_23 ?_
      refine lv_aload_n hx hb dX3_isLike_24 rfl (lv_at hl 4 rfl) ?_
      refine lv_iload_n hx hb dX3_isLike_25 rfl (lv_at hl 5 rfl) ?_
      refine lv_iload hx hb dX3_isLike_26 (lv_at hl 1 rfl) ?_
      refine lv_iadd hx hb dX3_isLike_28 ?_
      refine zti (nI_add _ _) (y := nI (j + k)) ?_
      refine z_iald (k := (j + k)) (f := g) hx hb hK ha1 (by omega) (by omega) dX3_isLike_29 ?_
      refine lv_icmp_ne (tgt := 37) hx hb dX3_isLike_30 (by decide) (fun hc30 => ?_) (fun hc30 => ?_)
      · skip
        have hc30 : ¬ (f (i + k)) = (g (j + k)) := hc30
        refine lv_iconst (v := nI 0) hx hb dX3_isLike_37 (by decide) ?_
        refine zti (y := bI false) rfl ?_
        refine lv_istore (lv' := [(5, .int (bI false)), (6, .int (nI k)), (0, .ref b0), (1, .int (nI i)), (2, .ref b1), (3, .int (nI j)), (4, .int (nI n))]) hx hb dX3_isLike_38 hl (by decide) rfl (fun ls hl => ?_)
        refine lv_iinc (v := nI (k + 1)) (lv' := [(6, .int (nI (k + 1))), (5, .int (bI false)), (0, .ref b0), (1, .int (nI i)), (2, .ref b1), (3, .int (nI j)), (4, .int (nI n))]) hx hb dX3_isLike_40 hl (k := 1) rfl (z_inc _) (by decide) rfl (fun ls hl => ?_)
        refine lv_goto (tgt := 6) hx hb dX3_isLike_43 (by decide) ?_
        exact ih6 ((k + 1), false) ls (show n - (k + 1) < dd6 by omega) ⟨lv_sub hl [1, 0, 2, 3, 4, 5, 6] rfl, (show (k + 1) ≤ n from by omega), (show false = stB f g i j (k + 1) from by rw [stB_succ, decide_eq_false hc30, Bool.and_false])⟩
      · skip
        have hc30 : (f (i + k)) = (g (j + k)) := hc30
        refine lv_iconst (v := nI 1) hx hb dX3_isLike_33 (by decide) ?_
        refine lv_goto (tgt := 38) hx hb dX3_isLike_34 (by decide) ?_
        refine zti (y := bI true) rfl ?_
        refine lv_istore (lv' := [(5, .int (bI true)), (6, .int (nI k)), (0, .ref b0), (1, .int (nI i)), (2, .ref b1), (3, .int (nI j)), (4, .int (nI n))]) hx hb dX3_isLike_38 hl (by decide) rfl (fun ls hl => ?_)
        refine lv_iinc (v := nI (k + 1)) (lv' := [(6, .int (nI (k + 1))), (5, .int (bI true)), (0, .ref b0), (1, .int (nI i)), (2, .ref b1), (3, .int (nI j)), (4, .int (nI n))]) hx hb dX3_isLike_40 hl (k := 1) rfl (z_inc _) (by decide) rfl (fun ls hl => ?_)
        refine lv_goto (tgt := 6) hx hb dX3_isLike_43 (by decide) ?_
        exact ih6 ((k + 1), true) ls (show n - (k + 1) < dd6 by omega) ⟨lv_sub hl [1, 0, 2, 3, 4, 5, 6] rfl, (show (k + 1) ≤ n from by omega), (show true = stB f g i j (k + 1) from by rw [stB_succ, ← hq, hc15, decide_eq_true hc30]; rfl)⟩

set_option maxHeartbeats 4000000 in
set_option maxRecDepth 100000 in
theorem c_X3_sumOf (l : Launch) (D : va_G) (cs : Nat → ClassId) (b0 n0 : Nat) (v : Nat → Nat) (hv : ∀ i, v i < 256) (p9 n : Nat) (hp : p9 + n ≤ n0) (hn : n ≤ 400) (hn0 : n0 < 2 ^ 30) : Met l yX3_sumOf wsX3_sumOf ({ frames := 0, cells := 0, slots := 0, locals := 0 }) (zP [.ref b0, .int (nI p9), .int (nI n)] (fun H => At D b0 (fa cs n0 (fun i => nI (v i))) H) D cs) (vp_Si (fun r => r = nI (wsum v p9 n))) 0 0 (fun _ => False) := by
  refine Met.ofW (cc := cX3_sumOf) (maxL := 6) (ret := (some .int)) (by decide) rfl ?_
  intro p e s m args below meth c s₁ B hml hv
  obtain ⟨rfl, hPH, hK⟩ := hv
  have hx := B.exec
  have hb := B.bytes
  have hr := B.returns
  have hts := atoms_spec (ws := wsX3_sumOf) B.pre
  have hown : s.vm.findClass RX3 = some m.cls := findClass_of_methodNamed B.named
  have hlocks := B.notSynchronized
  have hPH : At D b0 (fa cs n0 (fun i => nI (v i))) s.heap := hPH
  have hl := lv_entry ([.ref b0, .int (nI p9), .int (nI n)]) (n := 6) (Nat.le_of_ble_eq_true rfl)
  rw [lg_entry_eq]
  generalize (lg_sl ([.ref b0, .int (nI p9), .int (nI n)]) ++ List.replicate (6 - (lg_sl ([.ref b0, .int (nI p9), .int (nI n)])).length) Slot.unset).toArray = ls at hl ⊢
  have hl : lv_has ls 6 [(0, .ref b0), (1, .int (nI p9)), (2, .int (nI n))] := hl
  have ha0 := hPH
  refine lv_iconst (v := nI 0) hx hb dX3_sumOf_0 (by decide) ?_
  refine lv_istore_n (lv' := [(3, .int (nI 0)), (0, .ref b0), (1, .int (nI p9)), (2, .int (nI n))]) hx hb dX3_sumOf_1 rfl hl (by decide) rfl (fun ls hl => ?_)
  refine lv_iconst (v := nI 0) hx hb dX3_sumOf_2 (by decide) ?_
  refine lv_istore (lv' := [(4, .int (nI 0)), (3, .int (nI 0)), (0, .ref b0), (1, .int (nI p9)), (2, .int (nI n))]) hx hb dX3_sumOf_3 hl (by decide) rfl (fun ls hl => ?_)
  refine lv_iload_n hx hb dX3_sumOf_5 rfl (lv_at hl 3 rfl) ?_
  refine lv_istore (lv' := [(5, .int (nI p9)), (4, .int (nI 0)), (3, .int (nI 0)), (0, .ref b0), (1, .int (nI p9)), (2, .int (nI n))]) hx hb dX3_sumOf_6 hl (by decide) rfl (fun ls hl => ?_)
  refine z_loop (σ := Nat) (fun q9 => n - q9) (fun q9 ls => lv_has ls 6 [(5, .int (nI (p9 + q9))), (3, .int (nI (sA v p9 q9))), (4, .int (nI (sB v p9 q9))), (0, .ref b0), (1, .int (nI p9)), (2, .int (nI n))] ∧ q9 ≤ n) 0 ⟨lv_sub hl [0, 2, 1, 3, 4, 5] rfl, (show 0 ≤ n from by omega)⟩ (fun dd8 ih8 y9 ls hd9 hI9 => ?_)
  obtain ⟨j, rfl⟩ : ∃ z, z = y9 := ⟨_, rfl⟩
  have hd8 : n - j = dd8 := hd9
  have hI9 : lv_has ls 6 [(5, .int (nI (p9 + j))), (3, .int (nI (sA v p9 j))), (4, .int (nI (sB v p9 j))), (0, .ref b0), (1, .int (nI p9)), (2, .int (nI n))] ∧ j ≤ n := hI9
  obtain ⟨hl, hk⟩ := hI9
  have hA9 := sA_lt hv (p := p9) (n := j) (by omega)
  have hX9 := sB_lt hv (p := p9) (n := j) (by omega)
  refine lv_iload hx hb dX3_sumOf_8 (lv_at hl 0 rfl) ?_
  refine lv_iload_n hx hb dX3_sumOf_10 rfl (lv_at hl 4 rfl) ?_
  refine lv_iload_n hx hb dX3_sumOf_11 rfl (lv_at hl 5 rfl) ?_
  refine lv_iadd hx hb dX3_sumOf_12 ?_
  refine zti (nI_add _ _) (y := nI (p9 + n)) ?_
  refine z_icmp_ge (tgt := 35) hx hb (by omega) (by omega) dX3_sumOf_13 (by decide) (fun hc13 => ?_) (fun hc13 => ?_)
  · skip
    have hc13 : p9 + n ≤ p9 + j := hc13
    have e9 : j = n := by omega
    rw [e9] at hl hA9 hX9
    refine lv_iload_n hx hb dX3_sumOf_35 rfl (lv_at hl 1 rfl) ?_
    refine lv_sipush (v := nI 255) hx hb dX3_sumOf_36 (by decide) ?_
    refine lv_iand hx hb dX3_sumOf_39 ?_
    refine zti (z_and255 (by omega)) (y := nI ((sA v p9 n) % 256)) ?_
    refine lv_sipush (v := nI 256) hx hb dX3_sumOf_40 (by decide) ?_
    refine lv_iload hx hb dX3_sumOf_43 (lv_at hl 2 rfl) ?_
    refine lv_sipush (v := nI 255) hx hb dX3_sumOf_45 (by decide) ?_
    refine lv_iand hx hb dX3_sumOf_48 ?_
    refine zti (z_and255 (by omega)) (y := nI ((sB v p9 n) % 256)) ?_
    refine lv_imul hx hb dX3_sumOf_49 ?_
    refine zti (pk_mul _ _) (y := nI (256 * ((sB v p9 n) % 256))) ?_
    refine lv_iadd hx hb dX3_sumOf_50 ?_
    refine zti (nI_add _ _) (y := nI ((sA v p9 n) % 256 + (256 * ((sB v p9 n) % 256)))) ?_
    exact W.iret (v := nI ((sA v p9 n) % 256 + (256 * ((sB v p9 n) % 256)))) hx hb hr (fun t ht hW => ⟨_, rfl, rfl, ht⟩) (fun q hq => absurd hq List.not_mem_nil) dX3_sumOf_51
  · skip
    have hc13 : p9 + j < p9 + n := hc13
    refine lv_iload_n hx hb dX3_sumOf_16 rfl (lv_at hl 1 rfl) ?_
    refine lv_aload_n hx hb dX3_sumOf_17 rfl (lv_at hl 3 rfl) ?_
    refine lv_iload hx hb dX3_sumOf_18 (lv_at hl 0 rfl) ?_
    refine z_iald (k := (p9 + j)) (f := fun i => nI (v i)) hx hb hK ha0 (by omega) (by omega) dX3_sumOf_20 ?_
    refine zti (y := nI (v (p9 + j))) rfl ?_
    refine lv_iadd hx hb dX3_sumOf_21 ?_
    refine zti (nI_add _ _) (y := nI (sA v p9 j + (v (p9 + j)))) ?_
    refine lv_istore_n (lv' := [(3, .int (nI (sA v p9 j + (v (p9 + j))))), (5, .int (nI (p9 + j))), (4, .int (nI (sB v p9 j))), (0, .ref b0), (1, .int (nI p9)), (2, .int (nI n))]) hx hb dX3_sumOf_22 rfl hl (by decide) rfl (fun ls hl => ?_)
    refine lv_iload hx hb dX3_sumOf_23 (lv_at hl 2 rfl) ?_
    refine lv_iload_n hx hb dX3_sumOf_25 rfl (lv_at hl 0 rfl) ?_
    refine lv_iadd hx hb dX3_sumOf_26 ?_
    refine zti (nI_add _ _) (y := nI (sB v p9 j + (sA v p9 j + (v (p9 + j))))) ?_
    refine lv_istore (lv' := [(4, .int (nI (sB v p9 j + (sA v p9 j + (v (p9 + j)))))), (3, .int (nI (sA v p9 j + (v (p9 + j))))), (5, .int (nI (p9 + j))), (0, .ref b0), (1, .int (nI p9)), (2, .int (nI n))]) hx hb dX3_sumOf_27 hl (by decide) rfl (fun ls hl => ?_)
    refine lv_iinc (v := nI (p9 + j + 1)) (lv' := [(5, .int (nI (p9 + j + 1))), (4, .int (nI (sB v p9 j + (sA v p9 j + (v (p9 + j)))))), (3, .int (nI (sA v p9 j + (v (p9 + j))))), (0, .ref b0), (1, .int (nI p9)), (2, .int (nI n))]) hx hb dX3_sumOf_29 hl (k := 2) rfl (z_inc _) (by decide) rfl (fun ls hl => ?_)
    refine lv_goto (tgt := 8) hx hb dX3_sumOf_32 (by decide) ?_
    exact ih8 (j + 1) ls (show n - (j + 1) < dd8 by omega) ⟨lv_sub hl [0, 2, 1, 3, 4, 5] rfl, (show (j + 1) ≤ n from by omega)⟩

set_option maxHeartbeats 4000000 in
set_option maxRecDepth 100000 in
theorem c_X3_blockLike (l : Launch) (D : va_G) (cs : Nat → ClassId) (b0 b1 n0 n1 : Nat) (f g : Nat → Int32) (place size : Nat) (hs : 2 ≤ size) (hs2 : size < 2 ^ 31) (hp : place + size ≤ n1) (hn0 : n0 < 2 ^ 31) (hn1 : n1 < 2 ^ 31) : Met l yX3_blockLike wsX3_blockLike ({ frames := 1, cells := 0, slots := 0, locals := 26 }) (zP [.ref b0, .int (nI size), .ref b1, .int (nI place), .int (nI 0)] (fun H => At D b0 (fa cs n0 f) H ∧ At D b1 (fa cs n1 g) H) D cs) (vp_Si (fun r => r = oI (fsF (fun z => stB f g (z * size) place size) (n0 / size)))) 0 0 (fun _ => False) := by
  refine Met.ofW (cc := cX3_blockLike) (maxL := 6) (ret := (some .int)) (by decide) rfl ?_
  intro p e s m args below meth c s₁ B hml hv
  obtain ⟨rfl, hPH, hK⟩ := hv
  have hx := B.exec
  have hb := B.bytes
  have hr := B.returns
  have hts := atoms_spec (ws := wsX3_blockLike) B.pre
  have hown : s.vm.findClass RX3 = some m.cls := findClass_of_methodNamed B.named
  have hlocks := B.notSynchronized
  have hPH : At D b0 (fa cs n0 f) s.heap ∧ At D b1 (fa cs n1 g) s.heap := hPH
  obtain ⟨ha0, ha1⟩ := hPH
  have hl := lv_entry ([.ref b0, .int (nI size), .ref b1, .int (nI place), .int (nI 0)]) (n := 6) (Nat.le_of_ble_eq_true rfl)
  rw [lg_entry_eq]
  generalize (lg_sl ([.ref b0, .int (nI size), .ref b1, .int (nI place), .int (nI 0)]) ++ List.replicate (6 - (lg_sl ([.ref b0, .int (nI size), .ref b1, .int (nI place), .int (nI 0)])).length) Slot.unset).toArray = ls at hl ⊢
  have hl : lv_has ls 6 [(0, .ref b0), (1, .int (nI size)), (2, .ref b1), (3, .int (nI place)), (4, .int (nI 0))] := hl
  have hq8 : n0 / size ≤ n0 := Nat.div_le_self n0 size
  refine lv_iload hx hb dX3_blockLike_0 (lv_at hl 4 rfl) ?_
  refine lv_istore (lv' := [(5, .int (nI 0)), (0, .ref b0), (1, .int (nI size)), (2, .ref b1), (3, .int (nI place)), (4, .int (nI 0))]) hx hb dX3_blockLike_2 hl (by decide) rfl (fun ls hl => ?_)
  refine z_loop (σ := Nat) (fun q9 => n0 / size - q9) (fun q9 ls => lv_has ls 6 [(5, .int (nI q9)), (0, .ref b0), (1, .int (nI size)), (2, .ref b1), (3, .int (nI place))] ∧ q9 ≤ n0 / size ∧ ∀ z, z < q9 → stB f g (z * size) place size = false) 0 ⟨lv_sub hl [0, 1, 2, 3, 4] rfl, (show 0 ≤ n0 / size from Nat.zero_le _), (show ∀ z, z < 0 → stB f g (z * size) place size = false from fun z hz => absurd hz (Nat.not_lt_zero z))⟩ (fun dd4 ih4 y9 ls hd9 hI9 => ?_)
  obtain ⟨k, rfl⟩ : ∃ z, z = y9 := ⟨_, rfl⟩
  have hd4 : n0 / size - k = dd4 := hd9
  have hI9 : lv_has ls 6 [(5, .int (nI k)), (0, .ref b0), (1, .int (nI size)), (2, .ref b1), (3, .int (nI place))] ∧ k ≤ n0 / size ∧ ∀ z, z < k → stB f g (z * size) place size = false := hI9
  obtain ⟨hl, hk, hno⟩ := hI9
  refine lv_iload hx hb dX3_blockLike_4 (lv_at hl 0 rfl) ?_
  refine lv_aload_n hx hb dX3_blockLike_6 rfl (lv_at hl 1 rfl) ?_
  refine z_alen (n := n0) hx hb hK ha0 dX3_blockLike_7 ?_
  refine lv_iload_n hx hb dX3_blockLike_8 rfl (lv_at hl 2 rfl) ?_
  refine lv_idiv hx hb dX3_blockLike_9 (nI_ne0 (by omega) (by omega)) ?_
  refine zti (pk_div (by omega) (by omega) (by omega)) (y := nI (n0 / size)) ?_
  refine z_icmp_ge (tgt := 36) hx hb (by omega) (by omega) dX3_blockLike_10 (by decide) (fun hc10 => ?_) (fun hc10 => ?_)
  · skip
    have hc10 : n0 / size ≤ k := hc10
    refine lv_iconst (v := (-1 : Int32)) hx hb dX3_blockLike_36 (by decide) ?_
    exact W.iret (v := (-1 : Int32)) hx hb hr (fun t ht hW => ⟨_, rfl, (by rw [fsF_none (P := (fun z => stB f g (z * size) place size)) (fun j hj => hno j (by omega))]; rfl), ht⟩) (fun q hq => absurd hq List.not_mem_nil) dX3_blockLike_37
  · skip
    have hc10 : k < n0 / size := hc10
    have hq9 := z_blk hc10
    refine lv_aload_n hx hb dX3_blockLike_13 rfl (lv_at hl 1 rfl) ?_
    refine lv_iload hx hb dX3_blockLike_14 (lv_at hl 0 rfl) ?_
    refine lv_iload_n hx hb dX3_blockLike_16 rfl (lv_at hl 2 rfl) ?_
    refine lv_imul hx hb dX3_blockLike_17 ?_
    refine zti (pk_mul _ _) (y := nI (k * size)) ?_
    refine lv_aload_n hx hb dX3_blockLike_18 rfl (lv_at hl 3 rfl) ?_
    refine lv_iload_n hx hb dX3_blockLike_19 rfl (lv_at hl 4 rfl) ?_
    refine lv_iload_n hx hb dX3_blockLike_20 rfl (lv_at hl 2 rfl) ?_
    refine z_csS (As := [.ref b0, .int (nI (k * size)), .ref b1, .int (nI place), .int (nI size)]) (rest := []) ⟨hx, hb, hml, hown, hts⟩ (c_X3_isLike l D cs b0 b1 n0 n1 f g (k * size) place size (by omega) (by omega) hn0 hn1) (va_cwS 5 hts gX3_blockLike_X3_isLike rfl rfl rfl (by decide +kernel) ⟨Nat.le_of_ble_eq_true rfl, Nat.le_of_ble_eq_true rfl⟩) ⟨ha0, ha1⟩ hK rfl hl.1 rfl (Nat.le_of_ble_eq_true rfl) dX3_blockLike_21 ⟨Nat.zero_le _, Nat.zero_le _⟩ (fun r hq9 => ?_)
    have hq9 : r = bI (stB f g (k * size) place size) := hq9
    subst hq9
    refine z_ifb_eq (tgt := 30) hx hb dX3_blockLike_24 (by decide) (fun hc24 => ?_) (fun hc24 => ?_)
    · skip
      have hc24 : (stB f g (k * size) place size) = false := hc24
      refine lv_iinc (v := nI (k + 1)) (lv' := [(5, .int (nI (k + 1))), (0, .ref b0), (1, .int (nI size)), (2, .ref b1), (3, .int (nI place))]) hx hb dX3_blockLike_30 hl (k := 0) rfl (z_inc _) (by decide) rfl (fun ls hl => ?_)
      refine lv_goto (tgt := 4) hx hb dX3_blockLike_33 (by decide) ?_
      exact ih4 (k + 1) ls (show n0 / size - (k + 1) < dd4 by omega) ⟨lv_sub hl [0, 1, 2, 3, 4] rfl, (show (k + 1) ≤ n0 / size from by omega), (show ∀ z, z < (k + 1) → stB f g (z * size) place size = false from fun z hz => (Nat.lt_succ_iff_lt_or_eq.mp hz).elim (hno z) (fun e9 => by rw [e9]; exact hc24))⟩
    · skip
      have hc24 : (stB f g (k * size) place size) = true := hc24
      refine lv_iload hx hb dX3_blockLike_27 (lv_at hl 0 rfl) ?_
      exact W.iret (v := nI k) hx hb hr (fun t ht hW => ⟨_, rfl, (by rw [fsF_some (P := (fun z => stB f g (z * size) place size)) hc24 hno hc10]; rfl), ht⟩) (fun q hq => absurd hq List.not_mem_nil) dX3_blockLike_29

set_option maxHeartbeats 4000000 in
set_option maxRecDepth 100000 in
theorem c_X3_begins (l : Launch) (D : va_G) (cs : Nat → ClassId) (m9 go np : Nat) (fs : List Value) (fo : Nat → Option Nat) (hfo : fs[8]? = some (.ref go)) (p9 : Nat) (hp : p9 < np) (hnp : np ≤ 12) (b0 n0 : Nat) (ho : fo p9 = some b0) (o : Nat → Int32) (k : Nat) (hk : k < n0) (hn0 : n0 < 2 ^ 31) : Met l yX3_begins wsX3_begins ({ frames := 0, cells := 0, slots := 0, locals := 0 }) (zP [.ref m9, .int (nI p9), .int (nI k)] (fun H => At D m9 (.inr (4, fs)) H ∧ At D go (qa cs 2 12 fo) H ∧ At D b0 (fa cs n0 o) H) D cs) (vp_Si (fun r => r = bI (stA o k))) 0 0 (fun _ => False) := by
  refine Met.ofW (cc := cX3_begins) (maxL := 5) (ret := (some .boolean)) (by decide) rfl ?_
  intro p e s m args below meth c s₁ B hml hv
  obtain ⟨rfl, hPH, hK⟩ := hv
  have hx := B.exec
  have hb := B.bytes
  have hr := B.returns
  have hts := atoms_spec (ws := wsX3_begins) B.pre
  have hown : s.vm.findClass RX3 = some m.cls := findClass_of_methodNamed B.named
  have hlocks := B.notSynchronized
  have fl24 := hts (.fieldLink RX3 24 "DeltaUpdaterModel" "origins" "[[I") (by decide +kernel)
  have in4 : ∀ w ∈ u_ws RX3 TX3 12, w ∈ wsX3_begins := by decide +kernel
  have hPH : At D m9 (.inr (4, fs)) s.heap ∧ At D go (qa cs 2 12 fo) s.heap ∧ At D b0 (fa cs n0 o) s.heap := hPH
  obtain ⟨hm9, hgo, ha0⟩ := hPH
  have hl := lv_entry ([.ref m9, .int (nI p9), .int (nI k)]) (n := 5) (Nat.le_of_ble_eq_true rfl)
  rw [lg_entry_eq]
  generalize (lg_sl ([.ref m9, .int (nI p9), .int (nI k)]) ++ List.replicate (5 - (lg_sl ([.ref m9, .int (nI p9), .int (nI k)])).length) Slot.unset).toArray = ls at hl ⊢
  have hl : lv_has ls 5 [(0, .ref m9), (1, .int (nI p9)), (2, .int (nI k))] := hl
  refine lv_iload_n hx hb dX3_begins_0 rfl (lv_at hl 2 rfl) ?_
  refine z_ifn_ne (tgt := 6) hx hb (by omega) dX3_begins_1 (by decide) (fun hc1 => ?_) (fun hc1 => ?_)
  · skip
    have hc1 : ¬ k = 0 := hc1
    refine lv_aload_n hx hb dX3_begins_6 rfl (lv_at hl 0 rfl) ?_
    refine z_get (ci := 4) (v := .ref go) (C := RX3) (T := TX3) (N := 12) hx hb hts in4 hown hK hm9 rfl 8 (by decide) fl24 (fun _ h9 => h9) hfo dX3_begins_7 ?_
    refine lv_iload_n hx hb dX3_begins_10 rfl (lv_at hl 1 rfl) ?_
    refine z_aald (k := p9) (y := b0) (t0 := 2) hx hb hK hgo rfl rfl (by omega) (by omega) ho dX3_begins_11 ?_
    refine lv_iload_n hx hb dX3_begins_12 rfl (lv_at hl 2 rfl) ?_
    refine lv_iconst (v := nI 1) hx hb dX3_begins_13 (by decide) ?_
    refine lv_isub hx hb dX3_begins_14 ?_
    refine zti (pk_sub (by omega)) (y := nI (k - 1)) ?_
    refine z_iald (k := (k - 1)) (f := o) hx hb hK ha0 (by omega) (by omega) dX3_begins_15 ?_
    refine lv_istore_n (lv' := [(3, .int (o (k - 1))), (0, .ref m9), (1, .int (nI p9)), (2, .int (nI k))]) hx hb dX3_begins_16 rfl hl (by decide) rfl (fun ls hl => ?_)
    refine lv_aload_n hx hb dX3_begins_17 rfl (lv_at hl 1 rfl) ?_
    refine z_get (ci := 4) (v := .ref go) (C := RX3) (T := TX3) (N := 12) hx hb hts in4 hown hK hm9 rfl 8 (by decide) fl24 (fun _ h9 => h9) hfo dX3_begins_18 ?_
    refine lv_iload_n hx hb dX3_begins_21 rfl (lv_at hl 2 rfl) ?_
    refine z_aald (k := p9) (y := b0) (t0 := 2) hx hb hK hgo rfl rfl (by omega) (by omega) ho dX3_begins_22 ?_
    refine lv_iload_n hx hb dX3_begins_23 rfl (lv_at hl 3 rfl) ?_
    refine z_iald (k := k) (f := o) hx hb hK ha0 (by omega) (by omega) dX3_begins_24 ?_
    refine lv_istore (lv' := [(4, .int (o k)), (3, .int (o (k - 1))), (0, .ref m9), (1, .int (nI p9)), (2, .int (nI k))]) hx hb dX3_begins_25 hl (by decide) rfl (fun ls hl => ?_)
    refine lv_iload_n hx hb dX3_begins_27 rfl (lv_at hl 1 rfl) ?_
    refine lv_iconst (v := (-1 : Int32)) hx hb dX3_begins_28 (by decide) ?_
    refine lv_icmp_ne (tgt := 46) hx hb dX3_begins_29 (by decide) (fun hc29 => ?_) (fun hc29 => ?_)
    · skip
      have hc29 : ¬ (o (k - 1)) = (-1 : Int32) := hc29
      refine lv_iload hx hb dX3_begins_46 (lv_at hl 0 rfl) ?_
      refine lv_iload_n hx hb dX3_begins_48 rfl (lv_at hl 1 rfl) ?_
      refine lv_iconst (v := nI 1) hx hb dX3_begins_49 (by decide) ?_
      refine lv_iadd hx hb dX3_begins_50 ?_
      refine lv_icmp_eq (tgt := 58) hx hb dX3_begins_51 (by decide) (fun hc51 => ?_) (fun hc51 => ?_)
      · skip
        have hc51 : (o k) = ((o (k - 1)) + (nI 1)) := hc51
        refine lv_iconst (v := nI 0) hx hb dX3_begins_58 (by decide) ?_
        exact W.zret (v := nI 0) hx hb hr rfl (fun t ht hW => ⟨_, rfl, (bF (by simp [stA, hc1, hc29, hc51])), ht⟩) (fun q hq => absurd hq List.not_mem_nil) dX3_begins_59
      · skip
        have hc51 : ¬ (o k) = ((o (k - 1)) + (nI 1)) := hc51
        refine lv_iconst (v := nI 1) hx hb dX3_begins_54 (by decide) ?_
        refine lv_goto (tgt := 59) hx hb dX3_begins_55 (by decide) ?_
        exact W.zret (v := nI 1) hx hb hr rfl (fun t ht hW => ⟨_, rfl, (bT (by simp [stA, hc1, hc29, hc51])), ht⟩) (fun q hq => absurd hq List.not_mem_nil) dX3_begins_59
    · skip
      have hc29 : (o (k - 1)) = (-1 : Int32) := hc29
      refine lv_iload hx hb dX3_begins_32 (lv_at hl 0 rfl) ?_
      refine lv_iconst (v := (-1 : Int32)) hx hb dX3_begins_34 (by decide) ?_
      refine lv_icmp_eq (tgt := 42) hx hb dX3_begins_35 (by decide) (fun hc35 => ?_) (fun hc35 => ?_)
      · skip
        have hc35 : (o k) = (-1 : Int32) := hc35
        refine lv_iconst (v := nI 0) hx hb dX3_begins_42 (by decide) ?_
        refine lv_goto (tgt := 59) hx hb dX3_begins_43 (by decide) ?_
        exact W.zret (v := nI 0) hx hb hr rfl (fun t ht hW => ⟨_, rfl, (bF (by simp [stA, hc1, hc29, hc35])), ht⟩) (fun q hq => absurd hq List.not_mem_nil) dX3_begins_59
      · skip
        have hc35 : ¬ (o k) = (-1 : Int32) := hc35
        refine lv_iconst (v := nI 1) hx hb dX3_begins_38 (by decide) ?_
        refine lv_goto (tgt := 59) hx hb dX3_begins_39 (by decide) ?_
        exact W.zret (v := nI 1) hx hb hr rfl (fun t ht hW => ⟨_, rfl, (bT (by simp [stA, hc1, hc29, hc35])), ht⟩) (fun q hq => absurd hq List.not_mem_nil) dX3_begins_59
  · skip
    have hc1 : k = 0 := hc1
    refine lv_iconst (v := nI 1) hx hb dX3_begins_4 (by decide) ?_
    exact W.zret (v := nI 1) hx hb hr rfl (fun t ht hW => ⟨_, rfl, (bT (by simp [stA, hc1])), ht⟩) (fun q hq => absurd hq List.not_mem_nil) dX3_begins_5

set_option maxHeartbeats 4000000 in
set_option maxRecDepth 100000 in
theorem c_X3_many (l : Launch) (D : va_G) (cs : Nat → ClassId) (m9 go np : Nat) (fs : List Value) (fo : Nat → Option Nat) (hfo : fs[8]? = some (.ref go)) (p9 : Nat) (hp : p9 < np) (hnp : np ≤ 12) (b0 n0 : Nat) (ho : fo p9 = some b0) (o : Nat → Int32) (hn0 : n0 < 2 ^ 31) : Met l yX3_many wsX3_many ({ frames := 1, cells := 0, slots := 0, locals := 24 }) (zP [.ref m9, .int (nI p9)] (fun H => At D m9 (.inr (4, fs)) H ∧ At D go (qa cs 2 12 fo) H ∧ At D b0 (fa cs n0 o) H) D cs) (vp_Si (fun r => r = nI (manyN o n0))) 0 0 (fun _ => False) := by
  refine Met.ofW (cc := cX3_many) (maxL := 4) (ret := (some .int)) (by decide) rfl ?_
  intro p e s m args below meth c s₁ B hml hv
  obtain ⟨rfl, hPH, hK⟩ := hv
  have hx := B.exec
  have hb := B.bytes
  have hr := B.returns
  have hts := atoms_spec (ws := wsX3_many) B.pre
  have hown : s.vm.findClass RX3 = some m.cls := findClass_of_methodNamed B.named
  have hlocks := B.notSynchronized
  have fl24 := hts (.fieldLink RX3 24 "DeltaUpdaterModel" "origins" "[[I") (by decide +kernel)
  have in4 : ∀ w ∈ u_ws RX3 TX3 12, w ∈ wsX3_many := by decide +kernel
  have hPH : At D m9 (.inr (4, fs)) s.heap ∧ At D go (qa cs 2 12 fo) s.heap ∧ At D b0 (fa cs n0 o) s.heap := hPH
  obtain ⟨hm9, hgo, ha0⟩ := hPH
  have hl := lv_entry ([.ref m9, .int (nI p9)]) (n := 4) (Nat.le_of_ble_eq_true rfl)
  rw [lg_entry_eq]
  generalize (lg_sl ([.ref m9, .int (nI p9)]) ++ List.replicate (4 - (lg_sl ([.ref m9, .int (nI p9)])).length) Slot.unset).toArray = ls at hl ⊢
  have hl : lv_has ls 4 [(0, .ref m9), (1, .int (nI p9))] := hl
  refine lv_iconst (v := nI 0) hx hb dX3_many_0 (by decide) ?_
  refine lv_istore_n (lv' := [(2, .int (nI 0)), (0, .ref m9), (1, .int (nI p9))]) hx hb dX3_many_1 rfl hl (by decide) rfl (fun ls hl => ?_)
  refine lv_iconst (v := nI 0) hx hb dX3_many_2 (by decide) ?_
  refine lv_istore_n (lv' := [(3, .int (nI 0)), (2, .int (nI 0)), (0, .ref m9), (1, .int (nI p9))]) hx hb dX3_many_3 rfl hl (by decide) rfl (fun ls hl => ?_)
  refine z_loop (σ := Nat) (fun q9 => n0 - q9) (fun q9 ls => lv_has ls 4 [(3, .int (nI q9)), (2, .int (nI (ct (stA o) q9))), (0, .ref m9), (1, .int (nI p9))] ∧ q9 ≤ n0) 0 ⟨lv_sub hl [0, 1, 2, 3] rfl, (show 0 ≤ n0 from by omega)⟩ (fun dd4 ih4 y9 ls hd9 hI9 => ?_)
  obtain ⟨k, rfl⟩ : ∃ z, z = y9 := ⟨_, rfl⟩
  have hd4 : n0 - k = dd4 := hd9
  have hI9 : lv_has ls 4 [(3, .int (nI k)), (2, .int (nI (ct (stA o) k))), (0, .ref m9), (1, .int (nI p9))] ∧ k ≤ n0 := hI9
  obtain ⟨hl, hk⟩ := hI9
  have hc9 := ct_le (stA o) k
  refine lv_iload_n hx hb dX3_many_4 rfl (lv_at hl 0 rfl) ?_
  refine lv_aload_n hx hb dX3_many_5 rfl (lv_at hl 2 rfl) ?_
  refine z_get (ci := 4) (v := .ref go) (C := RX3) (T := TX3) (N := 12) hx hb hts in4 hown hK hm9 rfl 8 (by decide) fl24 (fun _ h9 => h9) hfo dX3_many_6 ?_
  refine lv_iload_n hx hb dX3_many_9 rfl (lv_at hl 3 rfl) ?_
  refine z_aald (k := p9) (y := b0) (t0 := 2) hx hb hK hgo rfl rfl (by omega) (by omega) ho dX3_many_10 ?_
  refine z_alen (n := n0) hx hb hK ha0 dX3_many_11 ?_
  refine z_icmp_ge (tgt := 38) hx hb (by omega) (by omega) dX3_many_12 (by decide) (fun hc12 => ?_) (fun hc12 => ?_)
  · skip
    have hc12 : n0 ≤ k := hc12
    have e9 : k = n0 := by omega
    rw [e9] at hl
    refine lv_iload_n hx hb dX3_many_38 rfl (lv_at hl 1 rfl) ?_
    exact W.iret (v := nI (ct (stA o) n0)) hx hb hr (fun t ht hW => ⟨_, rfl, rfl, ht⟩) (fun q hq => absurd hq List.not_mem_nil) dX3_many_39
  · skip
    have hc12 : k < n0 := hc12
    refine lv_iload_n hx hb dX3_many_15 rfl (lv_at hl 1 rfl) ?_
    refine lv_aload_n hx hb dX3_many_16 rfl (lv_at hl 2 rfl) ?_
    refine lv_iload_n hx hb dX3_many_17 rfl (lv_at hl 3 rfl) ?_
    refine lv_iload_n hx hb dX3_many_18 rfl (lv_at hl 0 rfl) ?_
    refine z_csV (As := [.int (nI p9), .int (nI k)]) (rest := [.int (nI (ct (stA o) k))]) ⟨hx, hb, hml, hown, hts⟩ (c_X3_begins l D cs m9 go np fs fo hfo p9 hp hnp b0 n0 ho o k (by omega) hn0) (cwV 2 hts gX3_many_X3_begins rfl rfl rfl (by decide +kernel) ⟨Nat.le_of_ble_eq_true rfl, Nat.le_of_ble_eq_true rfl⟩) hm9 rfl ⟨hm9, hgo, ha0⟩ hK rfl hl.1 rfl (Nat.le_of_ble_eq_true rfl) dX3_many_19 ⟨Nat.zero_le _, Nat.zero_le _⟩ (fun r hq9 => ?_)
    have hq9 : r = bI (stA o k) := hq9
    subst hq9
    refine z_ifb_eq (tgt := 29) hx hb dX3_many_22 (by decide) (fun hc22 => ?_) (fun hc22 => ?_)
    · skip
      have hc22 : (stA o k) = false := hc22
      refine lv_iconst (v := nI 0) hx hb dX3_many_29 (by decide) ?_
      refine lv_iadd hx hb dX3_many_30 ?_
      refine zti (nI_add _ _) (y := nI (ct (stA o) k + 0)) ?_
      refine zti (y := nI (ct (stA o) (k + 1))) (congrArg nI (ct_f hc22).symm) ?_
      refine lv_istore_n (lv' := [(2, .int (nI (ct (stA o) (k + 1)))), (3, .int (nI k)), (0, .ref m9), (1, .int (nI p9))]) hx hb dX3_many_31 rfl hl (by decide) rfl (fun ls hl => ?_)
      refine lv_iinc (v := nI (k + 1)) (lv' := [(3, .int (nI (k + 1))), (2, .int (nI (ct (stA o) (k + 1)))), (0, .ref m9), (1, .int (nI p9))]) hx hb dX3_many_32 hl (k := 1) rfl (z_inc _) (by decide) rfl (fun ls hl => ?_)
      refine lv_goto (tgt := 4) hx hb dX3_many_35 (by decide) ?_
      exact ih4 (k + 1) ls (show n0 - (k + 1) < dd4 by omega) ⟨lv_sub hl [0, 1, 2, 3] rfl, (show (k + 1) ≤ n0 from by omega)⟩
    · skip
      have hc22 : (stA o k) = true := hc22
      refine lv_iconst (v := nI 1) hx hb dX3_many_25 (by decide) ?_
      refine lv_goto (tgt := 30) hx hb dX3_many_26 (by decide) ?_
      refine lv_iadd hx hb dX3_many_30 ?_
      refine zti (nI_add _ _) (y := nI (ct (stA o) k + 1)) ?_
      refine zti (y := nI (ct (stA o) (k + 1))) (congrArg nI (ct_t hc22).symm) ?_
      refine lv_istore_n (lv' := [(2, .int (nI (ct (stA o) (k + 1)))), (3, .int (nI k)), (0, .ref m9), (1, .int (nI p9))]) hx hb dX3_many_31 rfl hl (by decide) rfl (fun ls hl => ?_)
      refine lv_iinc (v := nI (k + 1)) (lv' := [(3, .int (nI (k + 1))), (2, .int (nI (ct (stA o) (k + 1)))), (0, .ref m9), (1, .int (nI p9))]) hx hb dX3_many_32 hl (k := 1) rfl (z_inc _) (by decide) rfl (fun ls hl => ?_)
      refine lv_goto (tgt := 4) hx hb dX3_many_35 (by decide) ?_
      exact ih4 (k + 1) ls (show n0 - (k + 1) < dd4 by omega) ⟨lv_sub hl [0, 1, 2, 3] rfl, (show (k + 1) ≤ n0 from by omega)⟩

set_option maxHeartbeats 4000000 in
set_option maxRecDepth 100000 in
theorem c_X3_literals (l : Launch) (D : va_G) (cs : Nat → ClassId) (m9 go np : Nat) (fs : List Value) (fo : Nat → Option Nat) (hfo : fs[8]? = some (.ref go)) (p9 : Nat) (hp : p9 < np) (hnp : np ≤ 12) (b0 n0 : Nat) (ho : fo p9 = some b0) (o : Nat → Int32) (hn0 : n0 < 2 ^ 31) : Met l yX3_literals wsX3_literals ({ frames := 0, cells := 0, slots := 0, locals := 0 }) (zP [.ref m9, .int (nI p9)] (fun H => At D m9 (.inr (4, fs)) H ∧ At D go (qa cs 2 12 fo) H ∧ At D b0 (fa cs n0 o) H) D cs) (vp_Si (fun r => r = nI (litN o n0))) 0 0 (fun _ => False) := by
  refine Met.ofW (cc := cX3_literals) (maxL := 7) (ret := (some .int)) (by decide) rfl ?_
  intro p e s m args below meth c s₁ B hml hv
  obtain ⟨rfl, hPH, hK⟩ := hv
  have hx := B.exec
  have hb := B.bytes
  have hr := B.returns
  have hts := atoms_spec (ws := wsX3_literals) B.pre
  have hown : s.vm.findClass RX3 = some m.cls := findClass_of_methodNamed B.named
  have hlocks := B.notSynchronized
  have fl24 := hts (.fieldLink RX3 24 "DeltaUpdaterModel" "origins" "[[I") (by decide +kernel)
  have in4 : ∀ w ∈ u_ws RX3 TX3 12, w ∈ wsX3_literals := by decide +kernel
  have hPH : At D m9 (.inr (4, fs)) s.heap ∧ At D go (qa cs 2 12 fo) s.heap ∧ At D b0 (fa cs n0 o) s.heap := hPH
  obtain ⟨hm9, hgo, ha0⟩ := hPH
  have hl := lv_entry ([.ref m9, .int (nI p9)]) (n := 7) (Nat.le_of_ble_eq_true rfl)
  rw [lg_entry_eq]
  generalize (lg_sl ([.ref m9, .int (nI p9)]) ++ List.replicate (7 - (lg_sl ([.ref m9, .int (nI p9)])).length) Slot.unset).toArray = ls at hl ⊢
  have hl : lv_has ls 7 [(0, .ref m9), (1, .int (nI p9))] := hl
  refine lv_iconst (v := nI 0) hx hb dX3_literals_0 (by decide) ?_
  refine lv_istore_n (lv' := [(2, .int (nI 0)), (0, .ref m9), (1, .int (nI p9))]) hx hb dX3_literals_1 rfl hl (by decide) rfl (fun ls hl => ?_)
  refine lv_aload_n hx hb dX3_literals_2 rfl (lv_at hl 1 rfl) ?_
  refine z_get (ci := 4) (v := .ref go) (C := RX3) (T := TX3) (N := 12) hx hb hts in4 hown hK hm9 rfl 8 (by decide) fl24 (fun _ h9 => h9) hfo dX3_literals_3 ?_
  refine lv_iload_n hx hb dX3_literals_6 rfl (lv_at hl 2 rfl) ?_
  refine z_aald (k := p9) (y := b0) (t0 := 2) hx hb hK hgo rfl rfl (by omega) (by omega) ho dX3_literals_7 ?_
  refine lv_astore_n (lv' := [(3, .ref b0), (2, .int (nI 0)), (0, .ref m9), (1, .int (nI p9))]) hx hb dX3_literals_8 rfl hl (by decide) rfl (fun ls hl => ?_)
  refine lv_aload_n hx hb dX3_literals_9 rfl (lv_at hl 0 rfl) ?_
  refine z_alen (n := n0) hx hb hK ha0 dX3_literals_10 ?_
  refine lv_istore (lv' := [(4, .int (nI n0)), (3, .ref b0), (2, .int (nI 0)), (0, .ref m9), (1, .int (nI p9))]) hx hb dX3_literals_11 hl (by decide) rfl (fun ls hl => ?_)
  refine lv_iconst (v := nI 0) hx hb dX3_literals_13 (by decide) ?_
  refine lv_istore (lv' := [(5, .int (nI 0)), (4, .int (nI n0)), (3, .ref b0), (2, .int (nI 0)), (0, .ref m9), (1, .int (nI p9))]) hx hb dX3_literals_14 hl (by decide) rfl (fun ls hl => ?_)
  refine z_loop (σ := Nat) (fun q9 => n0 - q9) (fun q9 ls => lv_has ls 7 [(5, .int (nI q9)), (2, .int (nI (ct (ltA o) q9))), (0, .ref m9), (1, .int (nI p9)), (3, .ref b0), (4, .int (nI n0))] ∧ q9 ≤ n0) 0 ⟨lv_sub hl [0, 3, 4, 5, 2, 1] rfl, (show 0 ≤ n0 from by omega)⟩ (fun dd16 ih16 y9 ls hd9 hI9 => ?_)
  obtain ⟨k, rfl⟩ : ∃ z, z = y9 := ⟨_, rfl⟩
  have hd16 : n0 - k = dd16 := hd9
  have hI9 : lv_has ls 7 [(5, .int (nI k)), (2, .int (nI (ct (ltA o) k))), (0, .ref m9), (1, .int (nI p9)), (3, .ref b0), (4, .int (nI n0))] ∧ k ≤ n0 := hI9
  obtain ⟨hl, hk⟩ := hI9
  have hc9 := ct_le (ltA o) k
  refine lv_iload hx hb dX3_literals_16 (lv_at hl 0 rfl) ?_
  refine lv_iload hx hb dX3_literals_18 (lv_at hl 5 rfl) ?_
  refine z_icmp_ge (tgt := 49) hx hb (by omega) (by omega) dX3_literals_20 (by decide) (fun hc20 => ?_) (fun hc20 => ?_)
  · skip
    have hc20 : n0 ≤ k := hc20
    have e9 : k = n0 := by omega
    rw [e9] at hl
    refine lv_iload_n hx hb dX3_literals_49 rfl (lv_at hl 1 rfl) ?_
    exact W.iret (v := nI (ct (ltA o) n0)) hx hb hr (fun t ht hW => ⟨_, rfl, rfl, ht⟩) (fun q hq => absurd hq List.not_mem_nil) dX3_literals_50
  · skip
    have hc20 : k < n0 := hc20
    refine lv_aload_n hx hb dX3_literals_23 rfl (lv_at hl 4 rfl) ?_
    refine lv_iload hx hb dX3_literals_24 (lv_at hl 0 rfl) ?_
    refine z_iald (k := k) (f := o) hx hb hK ha0 (by omega) (by omega) dX3_literals_26 ?_
    refine lv_istore (lv' := [(6, .int (o k)), (5, .int (nI k)), (2, .int (nI (ct (ltA o) k))), (0, .ref m9), (1, .int (nI p9)), (3, .ref b0), (4, .int (nI n0))]) hx hb dX3_literals_27 hl (by decide) rfl (fun ls hl => ?_)
    refine lv_iload_n hx hb dX3_literals_29 rfl (lv_at hl 2 rfl) ?_
    refine lv_iload hx hb dX3_literals_30 (lv_at hl 0 rfl) ?_
    refine lv_iconst (v := (-1 : Int32)) hx hb dX3_literals_32 (by decide) ?_
    refine lv_icmp_ne (tgt := 40) hx hb dX3_literals_33 (by decide) (fun hc33 => ?_) (fun hc33 => ?_)
    · skip
      have hc33 : ¬ (o k) = (-1 : Int32) := hc33
      refine lv_iconst (v := nI 0) hx hb dX3_literals_40 (by decide) ?_
      refine lv_iadd hx hb dX3_literals_41 ?_
      refine zti (nI_add _ _) (y := nI (ct (ltA o) k + 0)) ?_
      refine zti (y := nI (ct (ltA o) (k + 1))) (congrArg nI (ct_f (P := ltA o) (decide_eq_false hc33)).symm) ?_
      refine lv_istore_n (lv' := [(2, .int (nI (ct (ltA o) (k + 1)))), (6, .int (o k)), (5, .int (nI k)), (0, .ref m9), (1, .int (nI p9)), (3, .ref b0), (4, .int (nI n0))]) hx hb dX3_literals_42 rfl hl (by decide) rfl (fun ls hl => ?_)
      refine lv_iinc (v := nI (k + 1)) (lv' := [(5, .int (nI (k + 1))), (2, .int (nI (ct (ltA o) (k + 1)))), (6, .int (o k)), (0, .ref m9), (1, .int (nI p9)), (3, .ref b0), (4, .int (nI n0))]) hx hb dX3_literals_43 hl (k := 2) rfl (z_inc _) (by decide) rfl (fun ls hl => ?_)
      refine lv_goto (tgt := 16) hx hb dX3_literals_46 (by decide) ?_
      exact ih16 (k + 1) ls (show n0 - (k + 1) < dd16 by omega) ⟨lv_sub hl [0, 1, 3, 4, 5, 6] rfl, (show (k + 1) ≤ n0 from by omega)⟩
    · skip
      have hc33 : (o k) = (-1 : Int32) := hc33
      refine lv_iconst (v := nI 1) hx hb dX3_literals_36 (by decide) ?_
      refine lv_goto (tgt := 41) hx hb dX3_literals_37 (by decide) ?_
      refine lv_iadd hx hb dX3_literals_41 ?_
      refine zti (nI_add _ _) (y := nI (ct (ltA o) k + 1)) ?_
      refine zti (y := nI (ct (ltA o) (k + 1))) (congrArg nI (ct_t (P := ltA o) (decide_eq_true hc33)).symm) ?_
      refine lv_istore_n (lv' := [(2, .int (nI (ct (ltA o) (k + 1)))), (6, .int (o k)), (5, .int (nI k)), (0, .ref m9), (1, .int (nI p9)), (3, .ref b0), (4, .int (nI n0))]) hx hb dX3_literals_42 rfl hl (by decide) rfl (fun ls hl => ?_)
      refine lv_iinc (v := nI (k + 1)) (lv' := [(5, .int (nI (k + 1))), (2, .int (nI (ct (ltA o) (k + 1)))), (6, .int (o k)), (0, .ref m9), (1, .int (nI p9)), (3, .ref b0), (4, .int (nI n0))]) hx hb dX3_literals_43 hl (k := 2) rfl (z_inc _) (by decide) rfl (fun ls hl => ?_)
      refine lv_goto (tgt := 16) hx hb dX3_literals_46 (by decide) ?_
      exact ih16 (k + 1) ls (show n0 - (k + 1) < dd16 by omega) ⟨lv_sub hl [0, 1, 3, 4, 5, 6] rfl, (show (k + 1) ≤ n0 from by omega)⟩

theorem wt_le (o : Nat → Int32) (k : Nat) : wt o k ≤ 5 := by unfold wt; split <;> omega
theorem cs_lt (o : Nat → Int32) {k : Nat} (hk : k ≤ 400) : sm (fun z => if stA o z = true then wt o z else 0) k ≤ 2000 := by
  have h := sm_bound (f := fun z => if stA o z = true then wt o z else 0) (c := 5) (n := k) (fun z _ => by
    show (if stA o z = true then wt o z else 0) ≤ 5
    have := wt_le o z
    split <;> omega)
  omega
theorem cs_t {o : Nat → Int32} {k w : Nat} (h : stA o k = true) (hw : wt o k = w) : sm (fun z => if stA o z = true then wt o z else 0) k + w = sm (fun z => if stA o z = true then wt o z else 0) (k + 1) := by
  show _ = _ + (if stA o k = true then wt o k else 0)
  rw [if_pos h, hw]
theorem cs_f {o : Nat → Int32} {k : Nat} (h : stA o k = false) : sm (fun z => if stA o z = true then wt o z else 0) (k + 1) = sm (fun z => if stA o z = true then wt o z else 0) k := by
  show _ + (if stA o k = true then wt o k else 0) = _
  rw [h]; rfl
theorem wt_l {o : Nat → Int32} {k : Nat} (h : o k = (-1)) : wt o k = 2 := if_pos h
theorem wt_c {o : Nat → Int32} {k : Nat} (h : ¬ o k = (-1)) : wt o k = 5 := if_neg h

set_option maxHeartbeats 4000000 in
set_option maxRecDepth 100000 in
theorem c_X3_costOf (l : Launch) (D : va_G) (cs : Nat → ClassId) (m9 go np : Nat) (fs : List Value) (fo : Nat → Option Nat) (hfo : fs[8]? = some (.ref go)) (p9 : Nat) (hp : p9 < np) (hnp : np ≤ 12) (b0 n0 : Nat) (ho : fo p9 = some b0) (o : Nat → Int32) (hn0 : n0 ≤ 400) : Met l yX3_costOf wsX3_costOf ({ frames := 1, cells := 0, slots := 0, locals := 26 }) (zP [.ref m9, .int (nI p9)] (fun H => At D m9 (.inr (4, fs)) H ∧ At D go (qa cs 2 12 fo) H ∧ At D b0 (fa cs n0 o) H) D cs) (vp_Si (fun r => r = nI (costN o n0))) 0 0 (fun _ => False) := by
  refine Met.ofW (cc := cX3_costOf) (maxL := 4) (ret := (some .int)) (by decide) rfl ?_
  intro p e s m args below meth c s₁ B hml hv
  obtain ⟨rfl, hPH, hK⟩ := hv
  have hx := B.exec
  have hb := B.bytes
  have hr := B.returns
  have hts := atoms_spec (ws := wsX3_costOf) B.pre
  have hown : s.vm.findClass RX3 = some m.cls := findClass_of_methodNamed B.named
  have hlocks := B.notSynchronized
  have fl24 := hts (.fieldLink RX3 24 "DeltaUpdaterModel" "origins" "[[I") (by decide +kernel)
  have in4 : ∀ w ∈ u_ws RX3 TX3 12, w ∈ wsX3_costOf := by decide +kernel
  have hPH : At D m9 (.inr (4, fs)) s.heap ∧ At D go (qa cs 2 12 fo) s.heap ∧ At D b0 (fa cs n0 o) s.heap := hPH
  obtain ⟨hm9, hgo, ha0⟩ := hPH
  have hl := lv_entry ([.ref m9, .int (nI p9)]) (n := 4) (Nat.le_of_ble_eq_true rfl)
  rw [lg_entry_eq]
  generalize (lg_sl ([.ref m9, .int (nI p9)]) ++ List.replicate (4 - (lg_sl ([.ref m9, .int (nI p9)])).length) Slot.unset).toArray = ls at hl ⊢
  have hl : lv_has ls 4 [(0, .ref m9), (1, .int (nI p9))] := hl
  refine lv_aload_n hx hb dX3_costOf_0 rfl (lv_at hl 0 rfl) ?_
  refine lv_iload_n hx hb dX3_costOf_1 rfl (lv_at hl 1 rfl) ?_
  refine z_csV (As := [.int (nI p9)]) (rest := []) ⟨hx, hb, hml, hown, hts⟩ (c_X3_literals l D cs m9 go np fs fo hfo p9 hp hnp b0 n0 ho o (by omega)) (cwV 1 hts gX3_costOf_X3_literals rfl rfl rfl (by decide +kernel) ⟨Nat.le_of_ble_eq_true rfl, Nat.le_of_ble_eq_true rfl⟩) hm9 rfl ⟨hm9, hgo, ha0⟩ hK rfl hl.1 rfl (Nat.le_of_ble_eq_true rfl) dX3_costOf_2 ⟨Nat.zero_le _, Nat.zero_le _⟩ (fun r hq9 => ?_)
  have hq9 : r = nI (litN o n0) := hq9
  subst hq9
  refine lv_istore_n (lv' := [(2, .int (nI (litN o n0))), (0, .ref m9), (1, .int (nI p9))]) hx hb dX3_costOf_5 rfl hl (by decide) rfl (fun ls hl => ?_)
  refine lv_iconst (v := nI 0) hx hb dX3_costOf_6 (by decide) ?_
  refine lv_istore_n (lv' := [(3, .int (nI 0)), (2, .int (nI (litN o n0))), (0, .ref m9), (1, .int (nI p9))]) hx hb dX3_costOf_7 rfl hl (by decide) rfl (fun ls hl => ?_)
  refine z_loop (σ := Nat) (fun q9 => n0 - q9) (fun q9 ls => lv_has ls 4 [(3, .int (nI q9)), (2, .int (nI (litN o n0 + sm (fun z => if stA o z = true then wt o z else 0) q9))), (0, .ref m9), (1, .int (nI p9))] ∧ q9 ≤ n0) 0 ⟨lv_sub hl [0, 1, 2, 3] rfl, (show 0 ≤ n0 from by omega)⟩ (fun dd8 ih8 y9 ls hd9 hI9 => ?_)
  obtain ⟨k, rfl⟩ : ∃ z, z = y9 := ⟨_, rfl⟩
  have hd8 : n0 - k = dd8 := hd9
  have hI9 : lv_has ls 4 [(3, .int (nI k)), (2, .int (nI (litN o n0 + sm (fun z => if stA o z = true then wt o z else 0) k))), (0, .ref m9), (1, .int (nI p9))] ∧ k ≤ n0 := hI9
  obtain ⟨hl, hk⟩ := hI9
  have hc9 := ct_le (ltA o) n0
  have hc9 : litN o n0 ≤ n0 := hc9
  have hc8 := cs_lt o (k := k) (by omega)
  refine lv_iload_n hx hb dX3_costOf_8 rfl (lv_at hl 0 rfl) ?_
  refine lv_aload_n hx hb dX3_costOf_9 rfl (lv_at hl 2 rfl) ?_
  refine z_get (ci := 4) (v := .ref go) (C := RX3) (T := TX3) (N := 12) hx hb hts in4 hown hK hm9 rfl 8 (by decide) fl24 (fun _ h9 => h9) hfo dX3_costOf_10 ?_
  refine lv_iload_n hx hb dX3_costOf_13 rfl (lv_at hl 3 rfl) ?_
  refine z_aald (k := p9) (y := b0) (t0 := 2) hx hb hK hgo rfl rfl (by omega) (by omega) ho dX3_costOf_14 ?_
  refine z_alen (n := n0) hx hb hK ha0 dX3_costOf_15 ?_
  refine z_icmp_ge (tgt := 54) hx hb (by omega) (by omega) dX3_costOf_16 (by decide) (fun hc16 => ?_) (fun hc16 => ?_)
  · skip
    have hc16 : n0 ≤ k := hc16
    have e9 : k = n0 := by omega
    rw [e9] at hl
    refine lv_iload_n hx hb dX3_costOf_54 rfl (lv_at hl 1 rfl) ?_
    exact W.iret (v := nI (litN o n0 + sm (fun z => if stA o z = true then wt o z else 0) n0)) hx hb hr (fun t ht hW => ⟨_, rfl, rfl, ht⟩) (fun q hq => absurd hq List.not_mem_nil) dX3_costOf_55
  · skip
    have hc16 : k < n0 := hc16
    refine lv_aload_n hx hb dX3_costOf_19 rfl (lv_at hl 2 rfl) ?_
    refine lv_iload_n hx hb dX3_costOf_20 rfl (lv_at hl 3 rfl) ?_
    refine lv_iload_n hx hb dX3_costOf_21 rfl (lv_at hl 0 rfl) ?_
    refine z_csV (As := [.int (nI p9), .int (nI k)]) (rest := []) ⟨hx, hb, hml, hown, hts⟩ (c_X3_begins l D cs m9 go np fs fo hfo p9 hp hnp b0 n0 ho o k (by omega) (by omega)) (cwV 2 hts gX3_costOf_X3_begins rfl rfl rfl (by decide +kernel) ⟨Nat.le_of_ble_eq_true rfl, Nat.le_of_ble_eq_true rfl⟩) hm9 rfl ⟨hm9, hgo, ha0⟩ hK rfl hl.1 rfl (Nat.le_of_ble_eq_true rfl) dX3_costOf_22 ⟨Nat.zero_le _, Nat.zero_le _⟩ (fun r hq9 => ?_)
    have hq9 : r = bI (stA o k) := hq9
    subst hq9
    refine z_ifb_eq (tgt := 48) hx hb dX3_costOf_25 (by decide) (fun hc25 => ?_) (fun hc25 => ?_)
    · skip
      have hc25 : (stA o k) = false := hc25
      rw [← cs_f hc25] at hl
      refine lv_iinc (v := nI (k + 1)) (lv' := [(3, .int (nI (k + 1))), (2, .int (nI (litN o n0 + sm (fun z => if stA o z = true then wt o z else 0) (k + 1)))), (0, .ref m9), (1, .int (nI p9))]) hx hb dX3_costOf_48 hl (k := 0) rfl (z_inc _) (by decide) rfl (fun ls hl => ?_)
      refine lv_goto (tgt := 8) hx hb dX3_costOf_51 (by decide) ?_
      exact ih8 (k + 1) ls (show n0 - (k + 1) < dd8 by omega) ⟨lv_sub hl [0, 1, 2, 3] rfl, (show (k + 1) ≤ n0 from by omega)⟩
    · skip
      have hc25 : (stA o k) = true := hc25
      refine lv_iload_n hx hb dX3_costOf_28 rfl (lv_at hl 1 rfl) ?_
      refine lv_aload_n hx hb dX3_costOf_29 rfl (lv_at hl 2 rfl) ?_
      refine z_get (ci := 4) (v := .ref go) (C := RX3) (T := TX3) (N := 12) hx hb hts in4 hown hK hm9 rfl 8 (by decide) fl24 (fun _ h9 => h9) hfo dX3_costOf_30 ?_
      refine lv_iload_n hx hb dX3_costOf_33 rfl (lv_at hl 3 rfl) ?_
      refine z_aald (k := p9) (y := b0) (t0 := 2) hx hb hK hgo rfl rfl (by omega) (by omega) ho dX3_costOf_34 ?_
      refine lv_iload_n hx hb dX3_costOf_35 rfl (lv_at hl 0 rfl) ?_
      refine z_iald (k := k) (f := o) hx hb hK ha0 (by omega) (by omega) dX3_costOf_36 ?_
      refine lv_iconst (v := (-1 : Int32)) hx hb dX3_costOf_37 (by decide) ?_
      refine lv_icmp_ne (tgt := 45) hx hb dX3_costOf_38 (by decide) (fun hc38 => ?_) (fun hc38 => ?_)
      · skip
        have hc38 : ¬ (o k) = (-1 : Int32) := hc38
        refine lv_iconst (v := nI 5) hx hb dX3_costOf_45 (by decide) ?_
        refine lv_iadd hx hb dX3_costOf_46 ?_
        refine zti (nI_add _ _) (y := nI (litN o n0 + sm (fun z => if stA o z = true then wt o z else 0) k + 5)) ?_
        refine zti (y := nI (litN o n0 + sm (fun z => if stA o z = true then wt o z else 0) (k + 1))) (congrArg nI (by rw [Nat.add_assoc, cs_t hc25 (wt_c hc38)])) ?_
        refine lv_istore_n (lv' := [(2, .int (nI (litN o n0 + sm (fun z => if stA o z = true then wt o z else 0) (k + 1)))), (3, .int (nI k)), (0, .ref m9), (1, .int (nI p9))]) hx hb dX3_costOf_47 rfl hl (by decide) rfl (fun ls hl => ?_)
        refine lv_iinc (v := nI (k + 1)) (lv' := [(3, .int (nI (k + 1))), (2, .int (nI (litN o n0 + sm (fun z => if stA o z = true then wt o z else 0) (k + 1)))), (0, .ref m9), (1, .int (nI p9))]) hx hb dX3_costOf_48 hl (k := 1) rfl (z_inc _) (by decide) rfl (fun ls hl => ?_)
        refine lv_goto (tgt := 8) hx hb dX3_costOf_51 (by decide) ?_
        exact ih8 (k + 1) ls (show n0 - (k + 1) < dd8 by omega) ⟨lv_sub hl [0, 1, 2, 3] rfl, (show (k + 1) ≤ n0 from by omega)⟩
      · skip
        have hc38 : (o k) = (-1 : Int32) := hc38
        refine lv_iconst (v := nI 2) hx hb dX3_costOf_41 (by decide) ?_
        refine lv_goto (tgt := 46) hx hb dX3_costOf_42 (by decide) ?_
        refine lv_iadd hx hb dX3_costOf_46 ?_
        refine zti (nI_add _ _) (y := nI (litN o n0 + sm (fun z => if stA o z = true then wt o z else 0) k + 2)) ?_
        refine zti (y := nI (litN o n0 + sm (fun z => if stA o z = true then wt o z else 0) (k + 1))) (congrArg nI (by rw [Nat.add_assoc, cs_t hc25 (wt_l hc38)])) ?_
        refine lv_istore_n (lv' := [(2, .int (nI (litN o n0 + sm (fun z => if stA o z = true then wt o z else 0) (k + 1)))), (3, .int (nI k)), (0, .ref m9), (1, .int (nI p9))]) hx hb dX3_costOf_47 rfl hl (by decide) rfl (fun ls hl => ?_)
        refine lv_iinc (v := nI (k + 1)) (lv' := [(3, .int (nI (k + 1))), (2, .int (nI (litN o n0 + sm (fun z => if stA o z = true then wt o z else 0) (k + 1)))), (0, .ref m9), (1, .int (nI p9))]) hx hb dX3_costOf_48 hl (k := 1) rfl (z_inc _) (by decide) rfl (fun ls hl => ?_)
        refine lv_goto (tgt := 8) hx hb dX3_costOf_51 (by decide) ?_
        exact ih8 (k + 1) ls (show n0 - (k + 1) < dd8 by omega) ⟨lv_sub hl [0, 1, 2, 3] rfl, (show (k + 1) ≤ n0 from by omega)⟩
