/-! readers of numbers, second part -/
theorem z_le_sub {a b c : Nat} (ha : a < 2 ^ 30) (hb : b < 2 ^ 30) (hc : c < 2 ^ 30) : nI a ≤ nI b - nI c ↔ a + c ≤ b := by
  rw [Int32.le_iff_toInt_le, pk_sub_toInt hb hc, nI_toInt (by omega)]; omega
theorem z_blk {k n0 size : Nat} (h : k < n0 / size) : k * size + size ≤ n0 := by
  have h1 := Nat.div_mul_le_self n0 size
  have h2 : (k + 1) * size ≤ n0 / size * size := Nat.mul_le_mul_right size h
  rw [Nat.succ_mul] at h2
  omega
def btc (f : Nat → Int32) (n0 : Nat) (g : Nat → Int32) (n1 place size : Nat) (last : Option Nat) : Option Nat :=
  if n1 < place + size then none else match last with
    | some q => if q + 1 < n0 / size ∧ stB f g ((q + 1) * size) place size = true then some (q + 1) else fsF (fun z => stB f g (z * size) place size) (n0 / size)
    | none => fsF (fun z => stB f g (z * size) place size) (n0 / size)
theorem btc_lo {f g : Nat → Int32} {n0 n1 place size : Nat} {last : Option Nat} (h : n1 < place + size) : btc f n0 g n1 place size last = none := if_pos h
theorem btc_no {f g : Nat → Int32} {n0 n1 place size : Nat} (h : place + size ≤ n1) : btc f n0 g n1 place size none = fsF (fun z => stB f g (z * size) place size) (n0 / size) := if_neg (Nat.not_lt.mpr h)
theorem btc_nx {f g : Nat → Int32} {n0 n1 place size q : Nat} (h : place + size ≤ n1) (h1 : q + 1 < n0 / size) (h2 : stB f g ((q + 1) * size) place size = true) : btc f n0 g n1 place size (some q) = some (q + 1) := by
  unfold btc
  rw [if_neg (Nat.not_lt.mpr h)]
  exact if_pos ⟨h1, h2⟩
theorem btc_s1 {f g : Nat → Int32} {n0 n1 place size q : Nat} (h : place + size ≤ n1) (h1 : ¬ q + 1 < n0 / size) : btc f n0 g n1 place size (some q) = fsF (fun z => stB f g (z * size) place size) (n0 / size) := by
  unfold btc
  rw [if_neg (Nat.not_lt.mpr h)]
  exact if_neg (fun z => h1 z.1)
theorem btc_s2 {f g : Nat → Int32} {n0 n1 place size q : Nat} (h : place + size ≤ n1) (h2 : stB f g ((q + 1) * size) place size = false) : btc f n0 g n1 place size (some q) = fsF (fun z => stB f g (z * size) place size) (n0 / size) := by
  unfold btc
  rw [if_neg (Nat.not_lt.mpr h)]
  exact if_neg (fun z => by rw [h2] at z; exact absurd z.2 (by decide))
def vI (v : Int32) (c : Nat) : Bool := decide (0 ≤ v) && decide (v ≤ nI c - nI 1)
def inB (v lo hi : Int32) : Bool := decide (lo ≤ v) && decide (v ≤ hi)

set_option maxHeartbeats 4000000 in
set_option maxRecDepth 100000 in
theorem c_X1_sumOf (l : Launch) (D : va_G) (cs : Nat → ClassId) (h0 b0 n0 : Nat) (v : Nat → Nat) (hv : ∀ i, v i < 256) (p9 n : Nat) (hp : p9 + n ≤ n0) (hn : n ≤ 400) (hn0 : n0 < 2 ^ 31) : Met l yX1_sumOf wsX1_sumOf ({ frames := 0, cells := 0, slots := 0, locals := 0 }) (zP [.ref h0, .int (nI p9), .int (nI n)] (fun H => At D h0 (.inr (2, [.ref b0])) H ∧ At D b0 (fa cs n0 (fun i => nI (v i))) H) D cs) (vp_Si (fun r => r = nI (wsum v p9 n))) 0 0 (fun _ => False) := by
  refine Met.ofW (cc := cX1_sumOf) (maxL := 6) (ret := (some .int)) (by decide) rfl ?_
  intro p e s m args below meth c s₁ B hml hv
  obtain ⟨rfl, hPH, hK⟩ := hv
  have hx := B.exec
  have hb := B.bytes
  have hr := B.returns
  have hts := atoms_spec (ws := wsX1_sumOf) B.pre
  have hown : s.vm.findClass RX1 = some m.cls := findClass_of_methodNamed B.named
  have hlocks := B.notSynchronized
  have fl13 := hts (.fieldLink RX1 13 "DeltaUpdater$Row" "bytes" "[I") (by decide +kernel)
  have in2 : ∀ w ∈ u_ws RX1 TX1 1, w ∈ wsX1_sumOf := by decide +kernel
  have hPH : At D h0 (.inr (2, [.ref b0])) s.heap ∧ At D b0 (fa cs n0 (fun i => nI (v i))) s.heap := hPH
  obtain ⟨hr0, ha0⟩ := hPH
  have hl := lv_entry ([.ref h0, .int (nI p9), .int (nI n)]) (n := 6) (Nat.le_of_ble_eq_true rfl)
  rw [lg_entry_eq]
  generalize (lg_sl ([.ref h0, .int (nI p9), .int (nI n)]) ++ List.replicate (6 - (lg_sl ([.ref h0, .int (nI p9), .int (nI n)])).length) Slot.unset).toArray = ls at hl ⊢
  have hl : lv_has ls 6 [(0, .ref h0), (1, .int (nI p9)), (2, .int (nI n))] := hl
  refine lv_iconst (v := nI 0) hx hb dX1_sumOf_0 (by decide) ?_
  refine lv_istore_n (lv' := [(3, .int (nI 0)), (0, .ref h0), (1, .int (nI p9)), (2, .int (nI n))]) hx hb dX1_sumOf_1 rfl hl (by decide) rfl (fun ls hl => ?_)
  refine lv_iconst (v := nI 0) hx hb dX1_sumOf_2 (by decide) ?_
  refine lv_istore (lv' := [(4, .int (nI 0)), (3, .int (nI 0)), (0, .ref h0), (1, .int (nI p9)), (2, .int (nI n))]) hx hb dX1_sumOf_3 hl (by decide) rfl (fun ls hl => ?_)
  refine lv_iconst (v := nI 0) hx hb dX1_sumOf_5 (by decide) ?_
  refine lv_istore (lv' := [(5, .int (nI 0)), (4, .int (nI 0)), (3, .int (nI 0)), (0, .ref h0), (1, .int (nI p9)), (2, .int (nI n))]) hx hb dX1_sumOf_6 hl (by decide) rfl (fun ls hl => ?_)
  refine z_loop (σ := Nat) (fun q9 => n - q9) (fun q9 ls => lv_has ls 6 [(5, .int (nI q9)), (3, .int (nI (sA v p9 q9))), (4, .int (nI (sX v p9 n q9))), (0, .ref h0), (1, .int (nI p9)), (2, .int (nI n))] ∧ q9 ≤ n) 0 ⟨lv_sub hl [0, 2, 1, 3, 4, 5] rfl, (show 0 ≤ n from by omega)⟩ (fun dd8 ih8 y9 ls hd9 hI9 => ?_)
  obtain ⟨k, rfl⟩ : ∃ z, z = y9 := ⟨_, rfl⟩
  have hd8 : n - k = dd8 := hd9
  have hI9 : lv_has ls 6 [(5, .int (nI k)), (3, .int (nI (sA v p9 k))), (4, .int (nI (sX v p9 n k))), (0, .ref h0), (1, .int (nI p9)), (2, .int (nI n))] ∧ k ≤ n := hI9
  obtain ⟨hl, hk⟩ := hI9
  have hA9 := sA_lt hv (p := p9) (n := k) (by omega)
  have hX9 := sX_lt hv (p := p9) (n := n) (k := k) hn hk
  refine lv_iload hx hb dX1_sumOf_8 (lv_at hl 0 rfl) ?_
  refine lv_iload_n hx hb dX1_sumOf_10 rfl (lv_at hl 5 rfl) ?_
  refine z_icmp_ge (tgt := 51) hx hb (by omega) (by omega) dX1_sumOf_11 (by decide) (fun hc11 => ?_) (fun hc11 => ?_)
  · skip
    have hc11 : n ≤ k := hc11
    have e9 : k = n := by omega
    rw [e9] at hl hA9 hX9
    refine lv_iload_n hx hb dX1_sumOf_51 rfl (lv_at hl 1 rfl) ?_
    refine lv_sipush (v := nI 256) hx hb dX1_sumOf_52 (by decide) ?_
    refine lv_irem hx hb dX1_sumOf_55 (nI_ne0 (by omega) (by omega)) ?_
    refine zti (pk_rem (by omega) (by omega) (by omega)) (y := nI ((sA v p9 n) % 256)) ?_
    refine lv_sipush (v := nI 256) hx hb dX1_sumOf_56 (by decide) ?_
    refine lv_iload hx hb dX1_sumOf_59 (lv_at hl 2 rfl) ?_
    refine lv_sipush (v := nI 256) hx hb dX1_sumOf_61 (by decide) ?_
    refine lv_irem hx hb dX1_sumOf_64 (nI_ne0 (by omega) (by omega)) ?_
    refine zti (pk_rem (by omega) (by omega) (by omega)) (y := nI ((sX v p9 n n) % 256)) ?_
    refine lv_imul hx hb dX1_sumOf_65 ?_
    refine zti (pk_mul _ _) (y := nI (256 * ((sX v p9 n n) % 256))) ?_
    refine lv_iadd hx hb dX1_sumOf_66 ?_
    refine zti (nI_add _ _) (y := nI ((sA v p9 n) % 256 + (256 * ((sX v p9 n n) % 256)))) ?_
    exact W.iret (v := nI ((sA v p9 n) % 256 + (256 * ((sX v p9 n n) % 256)))) hx hb hr (fun t ht hW => ⟨_, rfl, (by rw [sX_sB]; rfl), ht⟩) (fun q hq => absurd hq List.not_mem_nil) dX1_sumOf_67
  · skip
    have hc11 : k < n := hc11
    refine lv_iload_n hx hb dX1_sumOf_14 rfl (lv_at hl 1 rfl) ?_
    refine lv_aload_n hx hb dX1_sumOf_15 rfl (lv_at hl 3 rfl) ?_
    refine z_get (ci := 2) (v := .ref b0) (C := RX1) (T := TX1) (N := 1) hx hb hts in2 hown hK hr0 rfl 0 (by decide) fl13 (fun _ h9 => h9) rfl dX1_sumOf_16 ?_
    refine lv_iload_n hx hb dX1_sumOf_19 rfl (lv_at hl 4 rfl) ?_
    refine lv_iload hx hb dX1_sumOf_20 (lv_at hl 0 rfl) ?_
    refine lv_iadd hx hb dX1_sumOf_22 ?_
    refine zti (nI_add _ _) (y := nI (p9 + k)) ?_
    refine z_iald (k := (p9 + k)) (f := fun i => nI (v i)) hx hb hK ha0 (by omega) (by omega) dX1_sumOf_23 ?_
    refine zti (y := nI (v (p9 + k))) rfl ?_
    refine lv_iadd hx hb dX1_sumOf_24 ?_
    refine zti (nI_add _ _) (y := nI (sA v p9 k + (v (p9 + k)))) ?_
    refine lv_istore_n (lv' := [(3, .int (nI (sA v p9 k + (v (p9 + k))))), (5, .int (nI k)), (4, .int (nI (sX v p9 n k))), (0, .ref h0), (1, .int (nI p9)), (2, .int (nI n))]) hx hb dX1_sumOf_25 rfl hl (by decide) rfl (fun ls hl => ?_)
    refine lv_iload hx hb dX1_sumOf_26 (lv_at hl 2 rfl) ?_
    refine lv_iload_n hx hb dX1_sumOf_28 rfl (lv_at hl 5 rfl) ?_
    refine lv_iload hx hb dX1_sumOf_29 (lv_at hl 1 rfl) ?_
    refine lv_isub hx hb dX1_sumOf_31 ?_
    refine zti (pk_sub (by omega)) (y := nI (n - k)) ?_
    refine lv_aload_n hx hb dX1_sumOf_32 rfl (lv_at hl 3 rfl) ?_
    refine z_get (ci := 2) (v := .ref b0) (C := RX1) (T := TX1) (N := 1) hx hb hts in2 hown hK hr0 rfl 0 (by decide) fl13 (fun _ h9 => h9) rfl dX1_sumOf_33 ?_
    refine lv_iload_n hx hb dX1_sumOf_36 rfl (lv_at hl 4 rfl) ?_
    refine lv_iload hx hb dX1_sumOf_37 (lv_at hl 1 rfl) ?_
    refine lv_iadd hx hb dX1_sumOf_39 ?_
    refine zti (nI_add _ _) (y := nI (p9 + k)) ?_
    refine z_iald (k := (p9 + k)) (f := fun i => nI (v i)) hx hb hK ha0 (by omega) (by omega) dX1_sumOf_40 ?_
    refine zti (y := nI (v (p9 + k))) rfl ?_
    refine lv_imul hx hb dX1_sumOf_41 ?_
    refine zti (pk_mul _ _) (y := nI ((n - k) * (v (p9 + k)))) ?_
    refine lv_iadd hx hb dX1_sumOf_42 ?_
    refine zti (nI_add _ _) (y := nI (sX v p9 n k + ((n - k) * (v (p9 + k))))) ?_
    refine lv_istore (lv' := [(4, .int (nI (sX v p9 n k + ((n - k) * (v (p9 + k)))))), (3, .int (nI (sA v p9 k + (v (p9 + k))))), (5, .int (nI k)), (0, .ref h0), (1, .int (nI p9)), (2, .int (nI n))]) hx hb dX1_sumOf_43 hl (by decide) rfl (fun ls hl => ?_)
    refine lv_iinc (v := nI (k + 1)) (lv' := [(5, .int (nI (k + 1))), (4, .int (nI (sX v p9 n k + ((n - k) * (v (p9 + k)))))), (3, .int (nI (sA v p9 k + (v (p9 + k))))), (0, .ref h0), (1, .int (nI p9)), (2, .int (nI n))]) hx hb dX1_sumOf_45 hl (k := 2) rfl (z_inc _) (by decide) rfl (fun ls hl => ?_)
    refine lv_goto (tgt := 8) hx hb dX1_sumOf_48 (by decide) ?_
    exact ih8 (k + 1) ls (show n - (k + 1) < dd8 by omega) ⟨lv_sub hl [0, 2, 1, 3, 4, 5] rfl, (show (k + 1) ≤ n from by omega)⟩

set_option maxHeartbeats 4000000 in
set_option maxRecDepth 100000 in
theorem c_X0_startsAt (l : Launch) (D : va_G) (cs : Nat → ClassId) (b0 n0 : Nat) (o : Nat → Int32) (k : Nat) (hk : k < n0) (hn0 : n0 < 2 ^ 31) : Met l yX0_startsAt wsX0_startsAt ({ frames := 0, cells := 0, slots := 0, locals := 0 }) (zP [.ref b0, .int (nI k)] (fun H => At D b0 (fa cs n0 o) H) D cs) (vp_Si (fun r => r = bI (stA o k))) 0 0 (fun _ => False) := by
  refine Met.ofW (cc := cX0_startsAt) (maxL := 3) (ret := (some .boolean)) (by decide) rfl ?_
  intro p e s m args below meth c s₁ B hml hv
  obtain ⟨rfl, hPH, hK⟩ := hv
  have hx := B.exec
  have hb := B.bytes
  have hr := B.returns
  have hts := atoms_spec (ws := wsX0_startsAt) B.pre
  have hown : s.vm.findClass RX0 = some m.cls := findClass_of_methodNamed B.named
  have hlocks := B.notSynchronized
  have hPH : At D b0 (fa cs n0 o) s.heap := hPH
  have hl := lv_entry ([.ref b0, .int (nI k)]) (n := 3) (Nat.le_of_ble_eq_true rfl)
  rw [lg_entry_eq]
  generalize (lg_sl ([.ref b0, .int (nI k)]) ++ List.replicate (3 - (lg_sl ([.ref b0, .int (nI k)])).length) Slot.unset).toArray = ls at hl ⊢
  have hl : lv_has ls 3 [(0, .ref b0), (1, .int (nI k))] := hl
  have ha0 := hPH
  refine lv_iload_n hx hb dX0_startsAt_0 rfl (lv_at hl 1 rfl) ?_
  refine z_ifn_ne (tgt := 6) hx hb (by omega) dX0_startsAt_1 (by decide) (fun hc1 => ?_) (fun hc1 => ?_)
  · skip
    have hc1 : ¬ k = 0 := hc1
    refine lv_aload_n hx hb dX0_startsAt_6 rfl (lv_at hl 0 rfl) ?_
    refine lv_iload_n hx hb dX0_startsAt_7 rfl (lv_at hl 1 rfl) ?_
    refine lv_iconst (v := nI 1) hx hb dX0_startsAt_8 (by decide) ?_
    refine lv_isub hx hb dX0_startsAt_9 ?_
    refine zti (pk_sub (by omega)) (y := nI (k - 1)) ?_
    refine z_iald (k := (k - 1)) (f := o) hx hb hK ha0 (by omega) (by omega) dX0_startsAt_10 ?_
    refine lv_istore_n (lv' := [(2, .int (o (k - 1))), (0, .ref b0), (1, .int (nI k))]) hx hb dX0_startsAt_11 rfl hl (by decide) rfl (fun ls hl => ?_)
    refine lv_aload_n hx hb dX0_startsAt_12 rfl (lv_at hl 1 rfl) ?_
    refine lv_iload_n hx hb dX0_startsAt_13 rfl (lv_at hl 2 rfl) ?_
    refine z_iald (k := k) (f := o) hx hb hK ha0 (by omega) (by omega) dX0_startsAt_14 ?_
    refine lv_iload_n hx hb dX0_startsAt_15 rfl (lv_at hl 0 rfl) ?_
    refine lv_iconst (v := (-1 : Int32)) hx hb dX0_startsAt_16 (by decide) ?_
    refine lv_icmp_ne (tgt := 24) hx hb dX0_startsAt_17 (by decide) (fun hc17 => ?_) (fun hc17 => ?_)
    · skip
      have hc17 : ¬ (o (k - 1)) = (-1 : Int32) := hc17
      refine lv_iload_n hx hb dX0_startsAt_24 rfl (lv_at hl 0 rfl) ?_
      refine lv_iconst (v := nI 1) hx hb dX0_startsAt_25 (by decide) ?_
      refine lv_iadd hx hb dX0_startsAt_26 ?_
      refine lv_icmp_eq (tgt := 34) hx hb dX0_startsAt_27 (by decide) (fun hc27 => ?_) (fun hc27 => ?_)
      · skip
        have hc27 : (o k) = ((o (k - 1)) + (nI 1)) := hc27
        refine lv_iconst (v := nI 0) hx hb dX0_startsAt_34 (by decide) ?_
        exact W.zret (v := nI 0) hx hb hr rfl (fun t ht hW => ⟨_, rfl, (bF (by simp [stA, hc1, hc17, hc27])), ht⟩) (fun q hq => absurd hq List.not_mem_nil) dX0_startsAt_35
      · skip
        have hc27 : ¬ (o k) = ((o (k - 1)) + (nI 1)) := hc27
        refine lv_iconst (v := nI 1) hx hb dX0_startsAt_30 (by decide) ?_
        refine lv_goto (tgt := 35) hx hb dX0_startsAt_31 (by decide) ?_
        exact W.zret (v := nI 1) hx hb hr rfl (fun t ht hW => ⟨_, rfl, (bT (by simp [stA, hc1, hc17, hc27])), ht⟩) (fun q hq => absurd hq List.not_mem_nil) dX0_startsAt_35
    · skip
      have hc17 : (o (k - 1)) = (-1 : Int32) := hc17
      refine lv_iconst (v := (-1 : Int32)) hx hb dX0_startsAt_20 (by decide) ?_
      refine lv_goto (tgt := 27) hx hb dX0_startsAt_21 (by decide) ?_
      refine lv_icmp_eq (tgt := 34) hx hb dX0_startsAt_27 (by decide) (fun hc27 => ?_) (fun hc27 => ?_)
      · skip
        have hc27 : (o k) = (-1 : Int32) := hc27
        refine lv_iconst (v := nI 0) hx hb dX0_startsAt_34 (by decide) ?_
        exact W.zret (v := nI 0) hx hb hr rfl (fun t ht hW => ⟨_, rfl, (bF (by simp [stA, hc1, hc17, hc27])), ht⟩) (fun q hq => absurd hq List.not_mem_nil) dX0_startsAt_35
      · skip
        have hc27 : ¬ (o k) = (-1 : Int32) := hc27
        refine lv_iconst (v := nI 1) hx hb dX0_startsAt_30 (by decide) ?_
        refine lv_goto (tgt := 35) hx hb dX0_startsAt_31 (by decide) ?_
        exact W.zret (v := nI 1) hx hb hr rfl (fun t ht hW => ⟨_, rfl, (bT (by simp [stA, hc1, hc17, hc27])), ht⟩) (fun q hq => absurd hq List.not_mem_nil) dX0_startsAt_35
  · skip
    have hc1 : k = 0 := hc1
    refine lv_iconst (v := nI 1) hx hb dX0_startsAt_4 (by decide) ?_
    exact W.zret (v := nI 1) hx hb hr rfl (fun t ht hW => ⟨_, rfl, (bT (by simp [stA, hc1])), ht⟩) (fun q hq => absurd hq List.not_mem_nil) dX0_startsAt_5

set_option maxHeartbeats 4000000 in
set_option maxRecDepth 100000 in
theorem c_X0_literalsIn (l : Launch) (D : va_G) (cs : Nat → ClassId) (b0 n0 : Nat) (o : Nat → Int32) (hn0 : n0 < 2 ^ 31) : Met l yX0_literalsIn wsX0_literalsIn ({ frames := 0, cells := 0, slots := 0, locals := 0 }) (zP [.ref b0] (fun H => At D b0 (fa cs n0 o) H) D cs) (vp_Si (fun r => r = nI (litN o n0))) 0 0 (fun _ => False) := by
  refine Met.ofW (cc := cX0_literalsIn) (maxL := 3) (ret := (some .int)) (by decide) rfl ?_
  intro p e s m args below meth c s₁ B hml hv
  obtain ⟨rfl, hPH, hK⟩ := hv
  have hx := B.exec
  have hb := B.bytes
  have hr := B.returns
  have hts := atoms_spec (ws := wsX0_literalsIn) B.pre
  have hown : s.vm.findClass RX0 = some m.cls := findClass_of_methodNamed B.named
  have hlocks := B.notSynchronized
  have hPH : At D b0 (fa cs n0 o) s.heap := hPH
  have hl := lv_entry ([.ref b0]) (n := 3) (Nat.le_of_ble_eq_true rfl)
  rw [lg_entry_eq]
  generalize (lg_sl ([.ref b0]) ++ List.replicate (3 - (lg_sl ([.ref b0])).length) Slot.unset).toArray = ls at hl ⊢
  have hl : lv_has ls 3 [(0, .ref b0)] := hl
  have ha0 := hPH
  refine lv_iconst (v := nI 0) hx hb dX0_literalsIn_0 (by decide) ?_
  refine lv_istore_n (lv' := [(1, .int (nI 0)), (0, .ref b0)]) hx hb dX0_literalsIn_1 rfl hl (by decide) rfl (fun ls hl => ?_)
  refine lv_iconst (v := nI 0) hx hb dX0_literalsIn_2 (by decide) ?_
  refine lv_istore_n (lv' := [(2, .int (nI 0)), (1, .int (nI 0)), (0, .ref b0)]) hx hb dX0_literalsIn_3 rfl hl (by decide) rfl (fun ls hl => ?_)
  refine z_loop (σ := Nat) (fun q9 => n0 - q9) (fun q9 ls => lv_has ls 3 [(2, .int (nI q9)), (1, .int (nI (litN o q9))), (0, .ref b0)] ∧ q9 ≤ n0) 0 ⟨lv_sub hl [0, 1, 2] rfl, (show 0 ≤ n0 from by omega)⟩ (fun dd4 ih4 y9 ls hd9 hI9 => ?_)
  obtain ⟨k, rfl⟩ : ∃ z, z = y9 := ⟨_, rfl⟩
  have hd4 : n0 - k = dd4 := hd9
  have hI9 : lv_has ls 3 [(2, .int (nI k)), (1, .int (nI (litN o k))), (0, .ref b0)] ∧ k ≤ n0 := hI9
  obtain ⟨hl, hk⟩ := hI9
  have hc9 := ct_le (ltA o) k
  have hc9 : litN o k ≤ k := hc9
  refine lv_iload_n hx hb dX0_literalsIn_4 rfl (lv_at hl 0 rfl) ?_
  refine lv_aload_n hx hb dX0_literalsIn_5 rfl (lv_at hl 2 rfl) ?_
  refine z_alen (n := n0) hx hb hK ha0 dX0_literalsIn_6 ?_
  refine z_icmp_ge (tgt := 26) hx hb (by omega) (by omega) dX0_literalsIn_7 (by decide) (fun hc7 => ?_) (fun hc7 => ?_)
  · skip
    have hc7 : n0 ≤ k := hc7
    have e9 : k = n0 := by omega
    rw [e9] at hl
    refine lv_iload_n hx hb dX0_literalsIn_26 rfl (lv_at hl 1 rfl) ?_
    exact W.iret (v := nI (litN o n0)) hx hb hr (fun t ht hW => ⟨_, rfl, rfl, ht⟩) (fun q hq => absurd hq List.not_mem_nil) dX0_literalsIn_27
  · skip
    have hc7 : k < n0 := hc7
    refine lv_aload_n hx hb dX0_literalsIn_10 rfl (lv_at hl 2 rfl) ?_
    refine lv_iload_n hx hb dX0_literalsIn_11 rfl (lv_at hl 0 rfl) ?_
    refine z_iald (k := k) (f := o) hx hb hK ha0 (by omega) (by omega) dX0_literalsIn_12 ?_
    refine lv_iconst (v := (-1 : Int32)) hx hb dX0_literalsIn_13 (by decide) ?_
    refine lv_icmp_ne (tgt := 20) hx hb dX0_literalsIn_14 (by decide) (fun hc14 => ?_) (fun hc14 => ?_)
    · skip
      have hc14 : ¬ (o k) = (-1 : Int32) := hc14
      have e9 : litN o (k + 1) = litN o k := ct_f (decide_eq_false hc14)
      rw [← e9] at hl
      refine lv_iinc (v := nI (k + 1)) (lv' := [(2, .int (nI (k + 1))), (1, .int (nI (litN o (k + 1)))), (0, .ref b0)]) hx hb dX0_literalsIn_20 hl (k := 0) rfl (z_inc _) (by decide) rfl (fun ls hl => ?_)
      refine lv_goto (tgt := 4) hx hb dX0_literalsIn_23 (by decide) ?_
      exact ih4 (k + 1) ls (show n0 - (k + 1) < dd4 by omega) ⟨lv_sub hl [0, 1, 2] rfl, (show (k + 1) ≤ n0 from by omega)⟩
    · skip
      have hc14 : (o k) = (-1 : Int32) := hc14
      have e9 : litN o k + 1 = litN o (k + 1) := (ct_t (P := ltA o) (decide_eq_true hc14)).symm
      refine lv_iinc (v := nI (litN o k + 1)) (lv' := [(1, .int (nI (litN o k + 1))), (2, .int (nI k)), (0, .ref b0)]) hx hb dX0_literalsIn_17 hl (k := 1) rfl (z_inc _) (by decide) rfl (fun ls hl => ?_)
      rw [e9] at hl
      refine lv_iinc (v := nI (k + 1)) (lv' := [(2, .int (nI (k + 1))), (1, .int (nI (litN o (k + 1)))), (0, .ref b0)]) hx hb dX0_literalsIn_20 hl (k := 1) rfl (z_inc _) (by decide) rfl (fun ls hl => ?_)
      refine lv_goto (tgt := 4) hx hb dX0_literalsIn_23 (by decide) ?_
      exact ih4 (k + 1) ls (show n0 - (k + 1) < dd4 by omega) ⟨lv_sub hl [0, 1, 2] rfl, (show (k + 1) ≤ n0 from by omega)⟩

set_option maxHeartbeats 4000000 in
set_option maxRecDepth 100000 in
theorem c_X2_firstBlock (l : Launch) (D : va_G) (cs : Nat → ClassId) (h0 b0 h1 b1 n0 n1 : Nat) (f g : Nat → Int32) (place size : Nat) (hs : 2 ≤ size) (hp : place + size ≤ n1) (hn0 : n0 < 2 ^ 31) (hn1 : n1 < 2 ^ 31) : Met l yX2_firstBlock wsX2_firstBlock ({ frames := 1, cells := 0, slots := 0, locals := 25 }) (zP [.ref h0, .ref h1, .int (nI place), .int (nI size)] (fun H => At D h0 (.inr (2, [.ref b0])) H ∧ At D b0 (fa cs n0 f) H ∧ At D h1 (.inr (2, [.ref b1])) H ∧ At D b1 (fa cs n1 g) H) D cs) (vp_Si (fun r => r = oI (fsF (fun z => stB f g (z * size) place size) (n0 / size)))) 0 0 (fun _ => False) := by
  refine Met.ofW (cc := cX2_firstBlock) (maxL := 6) (ret := (some .int)) (by decide) rfl ?_
  intro p e s m args below meth c s₁ B hml hv
  obtain ⟨rfl, hPH, hK⟩ := hv
  have hx := B.exec
  have hb := B.bytes
  have hr := B.returns
  have hts := atoms_spec (ws := wsX2_firstBlock) B.pre
  have hown : s.vm.findClass RX2 = some m.cls := findClass_of_methodNamed B.named
  have hlocks := B.notSynchronized
  have fl72 := hts (.fieldLink RX2 72 "DeltaUpdater$Row" "bytes" "[I") (by decide +kernel)
  have in2 : ∀ w ∈ u_ws RX1 TX1 1, w ∈ wsX2_firstBlock := by decide +kernel
  have hPH : At D h0 (.inr (2, [.ref b0])) s.heap ∧ At D b0 (fa cs n0 f) s.heap ∧ At D h1 (.inr (2, [.ref b1])) s.heap ∧ At D b1 (fa cs n1 g) s.heap := hPH
  obtain ⟨hr0, ha0, hr1, ha1⟩ := hPH
  have hl := lv_entry ([.ref h0, .ref h1, .int (nI place), .int (nI size)]) (n := 6) (Nat.le_of_ble_eq_true rfl)
  rw [lg_entry_eq]
  generalize (lg_sl ([.ref h0, .ref h1, .int (nI place), .int (nI size)]) ++ List.replicate (6 - (lg_sl ([.ref h0, .ref h1, .int (nI place), .int (nI size)])).length) Slot.unset).toArray = ls at hl ⊢
  have hl : lv_has ls 6 [(0, .ref h0), (1, .ref h1), (2, .int (nI place)), (3, .int (nI size))] := hl
  refine lv_aload_n hx hb dX2_firstBlock_0 rfl (lv_at hl 0 rfl) ?_
  refine z_get (ci := 2) (v := .ref b0) (C := RX1) (T := TX1) (N := 1) hx hb hts in2 hown hK hr0 rfl 0 (by decide) fl72 (fun _ h9 => h9) rfl dX2_firstBlock_1 ?_
  have hq8 : n0 / size ≤ n0 := Nat.div_le_self n0 size
  refine z_alen (n := n0) hx hb hK ha0 dX2_firstBlock_4 ?_
  refine lv_iload_n hx hb dX2_firstBlock_5 rfl (lv_at hl 3 rfl) ?_
  refine lv_idiv hx hb dX2_firstBlock_6 (nI_ne0 (by omega) (by omega)) ?_
  refine zti (pk_div (by omega) (by omega) (by omega)) (y := nI (n0 / size)) ?_
  refine lv_istore (lv' := [(4, .int (nI (n0 / size))), (0, .ref h0), (1, .ref h1), (2, .int (nI place)), (3, .int (nI size))]) hx hb dX2_firstBlock_7 hl (by decide) rfl (fun ls hl => ?_)
  refine lv_iconst (v := nI 0) hx hb dX2_firstBlock_9 (by decide) ?_
  refine lv_istore (lv' := [(5, .int (nI 0)), (4, .int (nI (n0 / size))), (0, .ref h0), (1, .ref h1), (2, .int (nI place)), (3, .int (nI size))]) hx hb dX2_firstBlock_10 hl (by decide) rfl (fun ls hl => ?_)
  refine z_loop (σ := Nat) (fun q9 => n0 / size - q9) (fun q9 ls => lv_has ls 6 [(5, .int (nI q9)), (4, .int (nI (n0 / size))), (0, .ref h0), (1, .ref h1), (2, .int (nI place)), (3, .int (nI size))] ∧ q9 ≤ n0 / size ∧ ∀ z, z < q9 → stB f g (z * size) place size = false) 0 ⟨lv_sub hl [0, 1, 2, 3, 4, 5] rfl, (show 0 ≤ n0 / size from Nat.zero_le _), (show ∀ z, z < 0 → stB f g (z * size) place size = false from fun z hz => absurd hz (Nat.not_lt_zero z))⟩ (fun dd12 ih12 y9 ls hd9 hI9 => ?_)
  obtain ⟨k, rfl⟩ : ∃ z, z = y9 := ⟨_, rfl⟩
  have hd12 : n0 / size - k = dd12 := hd9
  have hI9 : lv_has ls 6 [(5, .int (nI k)), (4, .int (nI (n0 / size))), (0, .ref h0), (1, .ref h1), (2, .int (nI place)), (3, .int (nI size))] ∧ k ≤ n0 / size ∧ ∀ z, z < k → stB f g (z * size) place size = false := hI9
  obtain ⟨hl, hk, hno⟩ := hI9
  refine lv_iload hx hb dX2_firstBlock_12 (lv_at hl 0 rfl) ?_
  refine lv_iload hx hb dX2_firstBlock_14 (lv_at hl 1 rfl) ?_
  refine z_icmp_ge (tgt := 42) hx hb (by omega) (by omega) dX2_firstBlock_16 (by decide) (fun hc16 => ?_) (fun hc16 => ?_)
  · skip
    have hc16 : n0 / size ≤ k := hc16
    refine lv_iconst (v := (-1 : Int32)) hx hb dX2_firstBlock_42 (by decide) ?_
    exact W.iret (v := (-1 : Int32)) hx hb hr (fun t ht hW => ⟨_, rfl, (by rw [fsF_none (P := (fun z => stB f g (z * size) place size)) (fun j hj => hno j (by omega))]; rfl), ht⟩) (fun q hq => absurd hq List.not_mem_nil) dX2_firstBlock_43
  · skip
    have hc16 : k < n0 / size := hc16
    have hq9 := z_blk hc16
    refine lv_aload_n hx hb dX2_firstBlock_19 rfl (lv_at hl 2 rfl) ?_
    refine lv_iload hx hb dX2_firstBlock_20 (lv_at hl 0 rfl) ?_
    refine lv_iload_n hx hb dX2_firstBlock_22 rfl (lv_at hl 5 rfl) ?_
    refine lv_imul hx hb dX2_firstBlock_23 ?_
    refine zti (pk_mul _ _) (y := nI (k * size)) ?_
    refine lv_aload_n hx hb dX2_firstBlock_24 rfl (lv_at hl 3 rfl) ?_
    refine lv_iload_n hx hb dX2_firstBlock_25 rfl (lv_at hl 4 rfl) ?_
    refine lv_iload_n hx hb dX2_firstBlock_26 rfl (lv_at hl 5 rfl) ?_
    refine z_csV (As := [.int (nI (k * size)), .ref h1, .int (nI place), .int (nI size)]) (rest := []) ⟨hx, hb, hml, hown, hts⟩ (c_X1_hasStretch l D cs h0 b0 h1 b1 n0 n1 f g (k * size) place size (by omega) (by omega) hn0 hn1) (cwV 4 hts gX2_firstBlock_X1_hasStretch rfl rfl rfl (by decide +kernel) ⟨Nat.le_of_ble_eq_true rfl, Nat.le_of_ble_eq_true rfl⟩) hr0 rfl ⟨hr0, ha0, hr1, ha1⟩ hK rfl hl.1 rfl (Nat.le_of_ble_eq_true rfl) dX2_firstBlock_27 ⟨Nat.zero_le _, Nat.zero_le _⟩ (fun r hq9 => ?_)
    have hq9 : r = bI (stB f g (k * size) place size) := hq9
    subst hq9
    refine z_ifb_eq (tgt := 36) hx hb dX2_firstBlock_30 (by decide) (fun hc30 => ?_) (fun hc30 => ?_)
    · skip
      have hc30 : (stB f g (k * size) place size) = false := hc30
      refine lv_iinc (v := nI (k + 1)) (lv' := [(5, .int (nI (k + 1))), (4, .int (nI (n0 / size))), (0, .ref h0), (1, .ref h1), (2, .int (nI place)), (3, .int (nI size))]) hx hb dX2_firstBlock_36 hl (k := 0) rfl (z_inc _) (by decide) rfl (fun ls hl => ?_)
      refine lv_goto (tgt := 12) hx hb dX2_firstBlock_39 (by decide) ?_
      exact ih12 (k + 1) ls (show n0 / size - (k + 1) < dd12 by omega) ⟨lv_sub hl [0, 1, 2, 3, 4, 5] rfl, (show (k + 1) ≤ n0 / size from by omega), (show ∀ z, z < (k + 1) → stB f g (z * size) place size = false from fun z hz => (Nat.lt_succ_iff_lt_or_eq.mp hz).elim (hno z) (fun e9 => by rw [e9]; exact hc30))⟩
    · skip
      have hc30 : (stB f g (k * size) place size) = true := hc30
      refine lv_iload hx hb dX2_firstBlock_33 (lv_at hl 0 rfl) ?_
      exact W.iret (v := nI k) hx hb hr (fun t ht hW => ⟨_, rfl, (by rw [fsF_some (P := (fun z => stB f g (z * size) place size)) hc30 hno hc16]; rfl), ht⟩) (fun q hq => absurd hq List.not_mem_nil) dX2_firstBlock_35

theorem z_nm1 {q : Nat} (h : q < 2 ^ 31) : ¬ nI q = (-1) := fun z => by
  have h1 : (nI q).toInt = -1 := by rw [z]; decide
  rw [nI_toInt h] at h1; omega

set_option maxHeartbeats 4000000 in
set_option maxRecDepth 100000 in
theorem c_X2_blockToCopy (l : Launch) (D : va_G) (cs : Nat → ClassId) (h0 b0 h1 b1 n0 n1 : Nat) (f g : Nat → Int32) (place size : Nat) (last : Option Nat) (hlast : ∀ q, last = some q → q < 2 ^ 30) (hs : 2 ≤ size) (hs2 : size ≤ 32) (hp : place < 2 ^ 30) (hn0 : n0 < 2 ^ 30) (hn1 : n1 < 2 ^ 30) : Met l yX2_blockToCopy wsX2_blockToCopy ({ frames := 2, cells := 0, slots := 0, locals := 50 }) (zP [.ref h0, .ref h1, .int (nI place), .int (nI size), .int (oI last)] (fun H => At D h0 (.inr (2, [.ref b0])) H ∧ At D b0 (fa cs n0 f) H ∧ At D h1 (.inr (2, [.ref b1])) H ∧ At D b1 (fa cs n1 g) H) D cs) (vp_Si (fun r => r = oI (btc f n0 g n1 place size last))) 0 0 (fun _ => False) := by
  refine Met.ofW (cc := cX2_blockToCopy) (maxL := 6) (ret := (some .int)) (by decide) rfl ?_
  intro p e s m args below meth c s₁ B hml hv
  obtain ⟨rfl, hPH, hK⟩ := hv
  have hx := B.exec
  have hb := B.bytes
  have hr := B.returns
  have hts := atoms_spec (ws := wsX2_blockToCopy) B.pre
  have hown : s.vm.findClass RX2 = some m.cls := findClass_of_methodNamed B.named
  have hlocks := B.notSynchronized
  have fl72 := hts (.fieldLink RX2 72 "DeltaUpdater$Row" "bytes" "[I") (by decide +kernel)
  have in2 : ∀ w ∈ u_ws RX1 TX1 1, w ∈ wsX2_blockToCopy := by decide +kernel
  have hPH : At D h0 (.inr (2, [.ref b0])) s.heap ∧ At D b0 (fa cs n0 f) s.heap ∧ At D h1 (.inr (2, [.ref b1])) s.heap ∧ At D b1 (fa cs n1 g) s.heap := hPH
  obtain ⟨hr0, ha0, hr1, ha1⟩ := hPH
  have hl := lv_entry ([.ref h0, .ref h1, .int (nI place), .int (nI size), .int (oI last)]) (n := 6) (Nat.le_of_ble_eq_true rfl)
  rw [lg_entry_eq]
  generalize (lg_sl ([.ref h0, .ref h1, .int (nI place), .int (nI size), .int (oI last)]) ++ List.replicate (6 - (lg_sl ([.ref h0, .ref h1, .int (nI place), .int (nI size), .int (oI last)])).length) Slot.unset).toArray = ls at hl ⊢
  have hl : lv_has ls 6 [(0, .ref h0), (1, .ref h1), (2, .int (nI place)), (3, .int (nI size)), (4, .int (oI last))] := hl
  rcases last with _ | q9
  · skip
    have hl : lv_has ls 6 [(0, .ref h0), (1, .ref h1), (2, .int (nI place)), (3, .int (nI size)), (4, .int (-1 : Int32))] := hl
    refine lv_iload_n hx hb dX2_blockToCopy_0 rfl (lv_at hl 2 rfl) ?_
    refine lv_aload_n hx hb dX2_blockToCopy_1 rfl (lv_at hl 1 rfl) ?_
    refine z_get (ci := 2) (v := .ref b1) (C := RX1) (T := TX1) (N := 1) hx hb hts in2 hown hK hr1 rfl 0 (by decide) fl72 (fun _ h9 => h9) rfl dX2_blockToCopy_2 ?_
    refine z_alen (n := n1) hx hb hK ha1 dX2_blockToCopy_5 ?_
    refine lv_iload_n hx hb dX2_blockToCopy_6 rfl (lv_at hl 3 rfl) ?_
    refine lv_isub hx hb dX2_blockToCopy_7 ?_
    refine lv_icmp_le (tgt := 13) hx hb dX2_blockToCopy_8 (by decide) (fun hc8 => ?_) (fun hc8 => ?_)
    · skip
      have hc8 : (nI place) ≤ ((nI n1) - (nI size)) := hc8
      have hc8 : place + size ≤ n1 := (z_le_sub (by omega) (by omega) (by omega)).mp hc8
      refine lv_iload hx hb dX2_blockToCopy_13 (lv_at hl 4 rfl) ?_
      refine lv_iconst (v := nI 1) hx hb dX2_blockToCopy_15 (by decide) ?_
      refine lv_iadd hx hb dX2_blockToCopy_16 ?_
      refine lv_istore (lv' := [(5, .int ((-1 : Int32) + (nI 1))), (0, .ref h0), (1, .ref h1), (2, .int (nI place)), (3, .int (nI size)), (4, .int (-1 : Int32))]) hx hb dX2_blockToCopy_17 hl (by decide) rfl (fun ls hl => ?_)
      refine lv_iload hx hb dX2_blockToCopy_19 (lv_at hl 5 rfl) ?_
      refine lv_iconst (v := (-1 : Int32)) hx hb dX2_blockToCopy_21 (by decide) ?_
      refine lv_icmp_eq (tgt := 54) hx hb dX2_blockToCopy_22 (by decide) (fun hc22 => ?_) (fun hc22 => ?_)
      · skip
        have hc22 : (-1 : Int32) = (-1 : Int32) := hc22
        refine lv_aload_n hx hb dX2_blockToCopy_54 rfl (lv_at hl 1 rfl) ?_
        refine lv_aload_n hx hb dX2_blockToCopy_55 rfl (lv_at hl 2 rfl) ?_
        refine lv_iload_n hx hb dX2_blockToCopy_56 rfl (lv_at hl 3 rfl) ?_
        refine lv_iload_n hx hb dX2_blockToCopy_57 rfl (lv_at hl 4 rfl) ?_
        refine z_csS (As := [.ref h0, .ref h1, .int (nI place), .int (nI size)]) (rest := []) ⟨hx, hb, hml, hown, hts⟩ (c_X2_firstBlock l D cs h0 b0 h1 b1 n0 n1 f g place size hs (by omega) (by omega) (by omega)) (va_cwS 4 hts gX2_blockToCopy_X2_firstBlock rfl rfl rfl (by decide +kernel) ⟨Nat.le_of_ble_eq_true rfl, Nat.le_of_ble_eq_true rfl⟩) ⟨hr0, ha0, hr1, ha1⟩ hK rfl hl.1 rfl (Nat.le_of_ble_eq_true rfl) dX2_blockToCopy_58 ⟨Nat.zero_le _, Nat.zero_le _⟩ (fun r hq9 => ?_)
        have hq9 : r = oI (fsF (fun z => stB f g (z * size) place size) (n0 / size)) := hq9
        subst hq9
        exact W.iret (v := oI (fsF (fun z => stB f g (z * size) place size) (n0 / size))) hx hb hr (fun t ht hW => ⟨_, rfl, (by rw [btc_no hc8]), ht⟩) (fun q hq => absurd hq List.not_mem_nil) dX2_blockToCopy_61
      · skip
        have hc22 : ¬ (-1 : Int32) = (-1 : Int32) := hc22
        exact absurd rfl hc22
    · skip
      have hc8 : ¬ (nI place) ≤ ((nI n1) - (nI size)) := hc8
      have hc8 : n1 < place + size := Nat.not_le.mp fun z => hc8 ((z_le_sub (by omega) (by omega) (by omega)).mpr z)
      refine lv_iconst (v := (-1 : Int32)) hx hb dX2_blockToCopy_11 (by decide) ?_
      exact W.iret (v := (-1 : Int32)) hx hb hr (fun t ht hW => ⟨_, rfl, (by rw [btc_lo hc8]; rfl), ht⟩) (fun q hq => absurd hq List.not_mem_nil) dX2_blockToCopy_12
  · skip
    have hq9 := hlast _ rfl
    have hl : lv_has ls 6 [(0, .ref h0), (1, .ref h1), (2, .int (nI place)), (3, .int (nI size)), (4, .int (nI q9))] := hl
    refine lv_iload_n hx hb dX2_blockToCopy_0 rfl (lv_at hl 2 rfl) ?_
    refine lv_aload_n hx hb dX2_blockToCopy_1 rfl (lv_at hl 1 rfl) ?_
    refine z_get (ci := 2) (v := .ref b1) (C := RX1) (T := TX1) (N := 1) hx hb hts in2 hown hK hr1 rfl 0 (by decide) fl72 (fun _ h9 => h9) rfl dX2_blockToCopy_2 ?_
    refine z_alen (n := n1) hx hb hK ha1 dX2_blockToCopy_5 ?_
    refine lv_iload_n hx hb dX2_blockToCopy_6 rfl (lv_at hl 3 rfl) ?_
    refine lv_isub hx hb dX2_blockToCopy_7 ?_
    refine lv_icmp_le (tgt := 13) hx hb dX2_blockToCopy_8 (by decide) (fun hc8 => ?_) (fun hc8 => ?_)
    · skip
      have hc8 : (nI place) ≤ ((nI n1) - (nI size)) := hc8
      have hc8 : place + size ≤ n1 := (z_le_sub (by omega) (by omega) (by omega)).mp hc8
      refine lv_iload hx hb dX2_blockToCopy_13 (lv_at hl 4 rfl) ?_
      refine lv_iconst (v := nI 1) hx hb dX2_blockToCopy_15 (by decide) ?_
      refine lv_iadd hx hb dX2_blockToCopy_16 ?_
      refine zti (nI_add _ _) (y := nI (q9 + 1)) ?_
      refine lv_istore (lv' := [(5, .int (nI (q9 + 1))), (0, .ref h0), (1, .ref h1), (2, .int (nI place)), (3, .int (nI size)), (4, .int (nI q9))]) hx hb dX2_blockToCopy_17 hl (by decide) rfl (fun ls hl => ?_)
      refine lv_iload hx hb dX2_blockToCopy_19 (lv_at hl 5 rfl) ?_
      refine lv_iconst (v := (-1 : Int32)) hx hb dX2_blockToCopy_21 (by decide) ?_
      refine lv_icmp_eq (tgt := 54) hx hb dX2_blockToCopy_22 (by decide) (fun hc22 => ?_) (fun hc22 => ?_)
      · skip
        have hc22 : (nI q9) = (-1 : Int32) := hc22
        exact absurd hc22 (z_nm1 (by omega))
      · skip
        have hc22 : ¬ (nI q9) = (-1 : Int32) := hc22
        have hq7 := Nat.div_le_self n0 size
        refine lv_iload hx hb dX2_blockToCopy_25 (lv_at hl 0 rfl) ?_
        refine lv_aload_n hx hb dX2_blockToCopy_27 rfl (lv_at hl 1 rfl) ?_
        refine z_get (ci := 2) (v := .ref b0) (C := RX1) (T := TX1) (N := 1) hx hb hts in2 hown hK hr0 rfl 0 (by decide) fl72 (fun _ h9 => h9) rfl dX2_blockToCopy_28 ?_
        refine z_alen (n := n0) hx hb hK ha0 dX2_blockToCopy_31 ?_
        refine lv_iload_n hx hb dX2_blockToCopy_32 rfl (lv_at hl 4 rfl) ?_
        refine lv_idiv hx hb dX2_blockToCopy_33 (nI_ne0 (by omega) (by omega)) ?_
        refine zti (pk_div (by omega) (by omega) (by omega)) (y := nI (n0 / size)) ?_
        refine z_icmp_ge (tgt := 54) hx hb (by omega) (by omega) dX2_blockToCopy_34 (by decide) (fun hc34 => ?_) (fun hc34 => ?_)
        · skip
          have hc34 : n0 / size ≤ q9 + 1 := hc34
          refine lv_aload_n hx hb dX2_blockToCopy_54 rfl (lv_at hl 1 rfl) ?_
          refine lv_aload_n hx hb dX2_blockToCopy_55 rfl (lv_at hl 2 rfl) ?_
          refine lv_iload_n hx hb dX2_blockToCopy_56 rfl (lv_at hl 3 rfl) ?_
          refine lv_iload_n hx hb dX2_blockToCopy_57 rfl (lv_at hl 4 rfl) ?_
          refine z_csS (As := [.ref h0, .ref h1, .int (nI place), .int (nI size)]) (rest := []) ⟨hx, hb, hml, hown, hts⟩ (c_X2_firstBlock l D cs h0 b0 h1 b1 n0 n1 f g place size hs (by omega) (by omega) (by omega)) (va_cwS 4 hts gX2_blockToCopy_X2_firstBlock rfl rfl rfl (by decide +kernel) ⟨Nat.le_of_ble_eq_true rfl, Nat.le_of_ble_eq_true rfl⟩) ⟨hr0, ha0, hr1, ha1⟩ hK rfl hl.1 rfl (Nat.le_of_ble_eq_true rfl) dX2_blockToCopy_58 ⟨Nat.zero_le _, Nat.zero_le _⟩ (fun r hq9 => ?_)
          have hq9 : r = oI (fsF (fun z => stB f g (z * size) place size) (n0 / size)) := hq9
          subst hq9
          exact W.iret (v := oI (fsF (fun z => stB f g (z * size) place size) (n0 / size))) hx hb hr (fun t ht hW => ⟨_, rfl, (by rw [btc_s1 hc8 (Nat.not_lt.mpr hc34)]), ht⟩) (fun q hq => absurd hq List.not_mem_nil) dX2_blockToCopy_61
        · skip
          have hc34 : q9 + 1 < n0 / size := hc34
          have hq8 := z_blk hc34
          refine lv_aload_n hx hb dX2_blockToCopy_37 rfl (lv_at hl 1 rfl) ?_
          refine lv_iload hx hb dX2_blockToCopy_38 (lv_at hl 0 rfl) ?_
          refine lv_iload_n hx hb dX2_blockToCopy_40 rfl (lv_at hl 4 rfl) ?_
          refine lv_imul hx hb dX2_blockToCopy_41 ?_
          refine zti (pk_mul _ _) (y := nI ((q9 + 1) * size)) ?_
          refine lv_aload_n hx hb dX2_blockToCopy_42 rfl (lv_at hl 2 rfl) ?_
          refine lv_iload_n hx hb dX2_blockToCopy_43 rfl (lv_at hl 3 rfl) ?_
          refine lv_iload_n hx hb dX2_blockToCopy_44 rfl (lv_at hl 4 rfl) ?_
          refine z_csV (As := [.int (nI ((q9 + 1) * size)), .ref h1, .int (nI place), .int (nI size)]) (rest := []) ⟨hx, hb, hml, hown, hts⟩ (c_X1_hasStretch l D cs h0 b0 h1 b1 n0 n1 f g ((q9 + 1) * size) place size (z_blk hc34) (by omega) (by omega) (by omega)) (cwV 4 hts gX2_blockToCopy_X1_hasStretch rfl rfl rfl (by decide +kernel) ⟨Nat.le_of_ble_eq_true rfl, Nat.le_of_ble_eq_true rfl⟩) hr0 rfl ⟨hr0, ha0, hr1, ha1⟩ hK rfl hl.1 rfl (Nat.le_of_ble_eq_true rfl) dX2_blockToCopy_45 ⟨Nat.zero_le _, Nat.zero_le _⟩ (fun r hq9 => ?_)
          have hq9 : r = bI (stB f g ((q9 + 1) * size) place size) := hq9
          subst hq9
          refine z_ifb_eq (tgt := 54) hx hb dX2_blockToCopy_48 (by decide) (fun hc48 => ?_) (fun hc48 => ?_)
          · skip
            have hc48 : (stB f g ((q9 + 1) * size) place size) = false := hc48
            refine lv_aload_n hx hb dX2_blockToCopy_54 rfl (lv_at hl 1 rfl) ?_
            refine lv_aload_n hx hb dX2_blockToCopy_55 rfl (lv_at hl 2 rfl) ?_
            refine lv_iload_n hx hb dX2_blockToCopy_56 rfl (lv_at hl 3 rfl) ?_
            refine lv_iload_n hx hb dX2_blockToCopy_57 rfl (lv_at hl 4 rfl) ?_
            refine z_csS (As := [.ref h0, .ref h1, .int (nI place), .int (nI size)]) (rest := []) ⟨hx, hb, hml, hown, hts⟩ (c_X2_firstBlock l D cs h0 b0 h1 b1 n0 n1 f g place size hs (by omega) (by omega) (by omega)) (va_cwS 4 hts gX2_blockToCopy_X2_firstBlock rfl rfl rfl (by decide +kernel) ⟨Nat.le_of_ble_eq_true rfl, Nat.le_of_ble_eq_true rfl⟩) ⟨hr0, ha0, hr1, ha1⟩ hK rfl hl.1 rfl (Nat.le_of_ble_eq_true rfl) dX2_blockToCopy_58 ⟨Nat.zero_le _, Nat.zero_le _⟩ (fun r hq9 => ?_)
            have hq9 : r = oI (fsF (fun z => stB f g (z * size) place size) (n0 / size)) := hq9
            subst hq9
            exact W.iret (v := oI (fsF (fun z => stB f g (z * size) place size) (n0 / size))) hx hb hr (fun t ht hW => ⟨_, rfl, (by rw [btc_s2 hc8 hc48]), ht⟩) (fun q hq => absurd hq List.not_mem_nil) dX2_blockToCopy_61
          · skip
            have hc48 : (stB f g ((q9 + 1) * size) place size) = true := hc48
            refine lv_iload hx hb dX2_blockToCopy_51 (lv_at hl 0 rfl) ?_
            exact W.iret (v := nI (q9 + 1)) hx hb hr (fun t ht hW => ⟨_, rfl, (by rw [btc_nx hc8 hc34 hc48]; rfl), ht⟩) (fun q hq => absurd hq List.not_mem_nil) dX2_blockToCopy_53
    · skip
      have hc8 : ¬ (nI place) ≤ ((nI n1) - (nI size)) := hc8
      have hc8 : n1 < place + size := Nat.not_le.mp fun z => hc8 ((z_le_sub (by omega) (by omega) (by omega)).mpr z)
      refine lv_iconst (v := (-1 : Int32)) hx hb dX2_blockToCopy_11 (by decide) ?_
      exact W.iret (v := (-1 : Int32)) hx hb hr (fun t ht hW => ⟨_, rfl, (by rw [btc_lo hc8]; rfl), ht⟩) (fun q hq => absurd hq List.not_mem_nil) dX2_blockToCopy_12

