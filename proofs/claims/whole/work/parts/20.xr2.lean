
/-! the class's readers, second part -/
def dbN (f : Nat → Int32) (n0 size : Nat) : Nat := ct (fun k => decide (oI (fsF (fun z => stB f f (z * size) (k * size) size) (n0 / size)) = nI k)) (n0 / size)
def dgV (d : Int64) (vs : List BL) : Nat → Int64
  | 0 => d
  | k + 1 => dgR (dgV d vs k) (bb (vsN vs k)) (vsN vs k).length
def dgQ (d : Int64) (ps : List Pt) : Nat → Int64
  | 0 => d
  | k + 1 => dgP (dgQ d ps k) (tellI (rf (psN ps k).2.2) (bv (psN ps k).2.1) (psN ps k).2.1.length) (manyN (rf (psN ps k).2.2) (psN ps k).2.1.length)
def dgS (sg : St) : Int64 :=
  dgR (dgQ (dgV (dgR 233 (bb sg.1) sg.1.length * 31 + (nI sg.2.1.length).toInt64) sg.2.1 sg.2.1.length * 31 + (nI sg.2.2.1.length).toInt64) sg.2.2.1 sg.2.2.1.length) (bb sg.2.2.2.1) sg.2.2.2.1.length * 31 + (nI sg.2.2.2.2.length).toInt64
theorem dgF_cong {d : Int64} {f g : Nat → Int32} : ∀ {n : Nat}, (∀ i, i < n → f i = g i) → dgF d f n = dgF d g n
  | 0, _ => rfl
  | n + 1, h => by
    show dgF d f n * 31 + (f n).toInt64 = dgF d g n * 31 + (g n).toInt64
    rw [dgF_cong (fun i hi => h i (by omega)), h n (by omega)]
theorem dgR_cong {d : Int64} {f g : Nat → Int32} {n : Nat} (h : ∀ i, i < n → f i = g i) : dgR d f n = dgR d g n := dgF_cong h

set_option maxHeartbeats 4000000 in
set_option maxRecDepth 100000 in
theorem c_X2_weakSum (l : Launch) (D : va_G) (cs : Nat → ClassId) (S0 ea mi : Nat) (sa : Nat → Nat) (a : Nat → Nat) (u : XU) (sg : St) (v9 k9 n9 : Nat) (hv : v9 < sg.2.1.length) (hn1 : 1 ≤ n9) (hn2 : n9 ≤ 32) (hkn : k9 + n9 ≤ (vsN sg.2.1 v9).length) : Met l yX2_weakSum wsX2_weakSum ({ frames := 4, cells := 0, slots := 0, locals := 85 }) (zE [.ref (a 0), .int (nI v9), .int (nI k9), .int (nI n9)] (fun H => XH D cs a u sg H) D cs S0 ea mi sa) (vp_Si (fun r => r = nI (wsum (bv (vsN sg.2.1 v9)) k9 n9))) 0 0 (fun _ => False) := by
  refine Met.ofW (cc := cX2_weakSum) (maxL := 5) (ret := (some .int)) (by decide) rfl ?_
  intro p e s m args below meth c s₁ B hml hv
  obtain ⟨rfl, hPH, hK, hE⟩ := hv
  have hx := B.exec
  have hb := B.bytes
  have hr := B.returns
  have hts := atoms_spec (ws := wsX2_weakSum) B.pre
  have hown : s.vm.findClass RX2 = some m.cls := findClass_of_methodNamed B.named
  have hlocks := B.notSynchronized
  have fl72 := hts (.fieldLink RX2 72 "DeltaUpdater$Row" "bytes" "[I") (by decide +kernel)
  have in2 : ∀ w ∈ u_ws RX1 TX1 1, w ∈ wsX2_weakSum := by decide +kernel
  have hPH : XH D cs a u sg s.heap := hPH
  obtain ⟨hx0, hbf, hbc, hls, hlm, hlh, hrw, hpt, hin, hhr, hok⟩ := hPH
  have hl := lv_entry ([.ref (a 0), .int (nI v9), .int (nI k9), .int (nI n9)]) (n := 5) (Nat.le_of_ble_eq_true rfl)
  rw [lg_entry_eq]
  generalize (lg_sl ([.ref (a 0), .int (nI v9), .int (nI k9), .int (nI n9)]) ++ List.replicate (5 - (lg_sl ([.ref (a 0), .int (nI v9), .int (nI k9), .int (nI n9)])).length) Slot.unset).toArray = ls at hl ⊢
  have hl : lv_has ls 5 [(0, .ref (a 0)), (1, .int (nI v9)), (2, .int (nI k9)), (3, .int (nI n9))] := hl
  have hok4 := hok.2.1.1
  have hok5 := hok.2.2.1.1
  have hok6 := hok.2.2.2.2.1
  have hlen := (hok.2.1.2 v9 hv).1
  have hby := (hok.2.1.2 v9 hv).2
  refine lv_aload_n hx hb dX2_weakSum_0 rfl (lv_at hl 0 rfl) ?_
  refine lv_iload_n hx hb dX2_weakSum_1 rfl (lv_at hl 1 rfl) ?_
  refine z_ceRV (As := [.int (nI v9)]) (rest := []) ⟨hx, hb, hml, hown, hts⟩ (c_X2_rowOf l D cs S0 ea mi sa a u sg v9 hv) (cwV 1 hts gX2_weakSum_X2_rowOf rfl rfl rfl (by decide +kernel) ⟨Nat.le_of_ble_eq_true rfl, Nat.le_of_ble_eq_true rfl⟩) hx0 rfl ⟨hx0, hbf, hbc, hls, hlm, hlh, hrw, hpt, hin, hhr, hok⟩ hK hE va_S.rf rfl hl.1 rfl (Nat.le_of_ble_eq_true rfl) dX2_weakSum_2 ⟨Nat.zero_le _, Nat.zero_le _⟩ (fun r hq9 => ?_)
  have hq9 : r = (xR u 0 v9) := hq9
  subst hq9
  refine lv_astore (lv' := [(4, .ref (xR u 0 v9)), (0, .ref (a 0)), (1, .int (nI v9)), (2, .int (nI k9)), (3, .int (nI n9))]) hx hb dX2_weakSum_5 hl (by decide) rfl (fun ls hl => ?_)
  refine lv_iload_n hx hb dX2_weakSum_7 rfl (lv_at hl 4 rfl) ?_
  refine lv_iconst (v := nI 1) hx hb dX2_weakSum_8 (by decide) ?_
  refine z_icmp_lt (tgt := 18) hx hb (by omega) (by omega) dX2_weakSum_9 (by decide) (fun hc9 => ?_) (fun hc9 => ?_)
  · skip
    have hc9 : n9 < 1 := hc9
    omega
  · skip
    have hc9 : 1 ≤ n9 := hc9
    refine lv_iload_n hx hb dX2_weakSum_12 rfl (lv_at hl 4 rfl) ?_
    refine lv_bipush (v := nI 32) hx hb dX2_weakSum_13 (by decide) ?_
    refine z_icmp_le (tgt := 28) hx hb (by omega) (by omega) dX2_weakSum_15 (by decide) (fun hc15 => ?_) (fun hc15 => ?_)
    · skip
      have hc15 : n9 ≤ 32 := hc15
      refine lv_iload_n hx hb dX2_weakSum_28 rfl (lv_at hl 3 rfl) ?_
      refine z_ifn_lt (tgt := 44) hx hb (by omega) dX2_weakSum_29 (by decide) ?_
      refine lv_iload_n hx hb dX2_weakSum_32 rfl (lv_at hl 3 rfl) ?_
      refine lv_aload hx hb dX2_weakSum_33 (lv_at hl 0 rfl) ?_
      refine z_get (ci := 2) (v := .ref (xR u 1 v9)) (C := RX1) (T := TX1) (N := 1) hx hb hts in2 hown hK (hrw v9 (by omega)).1 rfl 0 (by decide) fl72 (fun _ h9 => h9) rfl dX2_weakSum_35 ?_
      refine z_alen (n := ((vsN sg.2.1 v9).length)) hx hb hK (hrw v9 (by omega)).2 dX2_weakSum_38 ?_
      refine lv_iload_n hx hb dX2_weakSum_39 rfl (lv_at hl 4 rfl) ?_
      refine lv_isub hx hb dX2_weakSum_40 ?_
      refine zti (pk_sub (by omega)) (y := nI (((vsN sg.2.1 v9).length) - n9)) ?_
      refine z_icmp_le (tgt := 54) hx hb (by omega) (by omega) dX2_weakSum_41 (by decide) (fun hc41 => ?_) (fun hc41 => ?_)
      · skip
        have hc41 : k9 ≤ ((vsN sg.2.1 v9).length) - n9 := hc41
        refine lv_aload hx hb dX2_weakSum_54 (lv_at hl 0 rfl) ?_
        refine lv_iload_n hx hb dX2_weakSum_56 rfl (lv_at hl 3 rfl) ?_
        refine lv_iload_n hx hb dX2_weakSum_57 rfl (lv_at hl 4 rfl) ?_
        refine z_csV (As := [.int (nI k9), .int (nI n9)]) (rest := []) ⟨hx, hb, hml, hown, hts⟩ (c_X1_sumOf l D cs (xR u 0 v9) (xR u 1 v9) (vsN sg.2.1 v9).length (bv (vsN sg.2.1 v9)) hby k9 n9 hkn (by omega) (by omega)) (cwV 2 hts gX2_weakSum_X1_sumOf rfl rfl rfl (by decide +kernel) ⟨Nat.le_of_ble_eq_true rfl, Nat.le_of_ble_eq_true rfl⟩) (hrw v9 (by omega)).1 rfl ⟨(hrw v9 hv).1, (hrw v9 hv).2⟩ hK rfl hl.1 rfl (Nat.le_of_ble_eq_true rfl) dX2_weakSum_58 ⟨Nat.zero_le _, Nat.zero_le _⟩ (fun r hq9 => ?_)
        have hq9 : r = nI (wsum (bv (vsN sg.2.1 v9)) k9 n9) := hq9
        subst hq9
        exact W.iret (v := nI (wsum (bv (vsN sg.2.1 v9)) k9 n9)) hx hb hr (fun t ht hW => ⟨_, rfl, rfl, ht⟩) (fun q hq => absurd hq List.not_mem_nil) dX2_weakSum_61
      · skip
        have hc41 : ((vsN sg.2.1 v9).length) - n9 < k9 := hc41
        omega
    · skip
      have hc15 : 32 < n9 := hc15
      omega

set_option maxHeartbeats 4000000 in
set_option maxRecDepth 100000 in
theorem c_X2_differentBlocks (l : Launch) (D : va_G) (cs : Nat → ClassId) (S0 ea mi : Nat) (sa : Nat → Nat) (a : Nat → Nat) (u : XU) (sg : St) (v9 size : Nat) (hv : v9 < sg.2.1.length) (h2 : 2 ≤ size) (h3 : size ≤ 32) : Met l yX2_differentBlocks wsX2_differentBlocks ({ frames := 4, cells := 0, slots := 0, locals := 85 }) (zE [.ref (a 0), .int (nI v9), .int (nI size)] (fun H => XH D cs a u sg H) D cs S0 ea mi sa) (vp_Si (fun r => r = nI (dbN (bb (vsN sg.2.1 v9)) (vsN sg.2.1 v9).length size))) 0 0 (fun _ => False) := by
  refine Met.ofW (cc := cX2_differentBlocks) (maxL := 7) (ret := (some .int)) (by decide) rfl ?_
  intro p e s m args below meth c s₁ B hml hv
  obtain ⟨rfl, hPH, hK, hE⟩ := hv
  have hx := B.exec
  have hb := B.bytes
  have hr := B.returns
  have hts := atoms_spec (ws := wsX2_differentBlocks) B.pre
  have hown : s.vm.findClass RX2 = some m.cls := findClass_of_methodNamed B.named
  have hlocks := B.notSynchronized
  have fl72 := hts (.fieldLink RX2 72 "DeltaUpdater$Row" "bytes" "[I") (by decide +kernel)
  have in2 : ∀ w ∈ u_ws RX1 TX1 1, w ∈ wsX2_differentBlocks := by decide +kernel
  have hPH : XH D cs a u sg s.heap := hPH
  obtain ⟨hx0, hbf, hbc, hls, hlm, hlh, hrw, hpt, hin, hhr, hok⟩ := hPH
  have hl := lv_entry ([.ref (a 0), .int (nI v9), .int (nI size)]) (n := 7) (Nat.le_of_ble_eq_true rfl)
  rw [lg_entry_eq]
  generalize (lg_sl ([.ref (a 0), .int (nI v9), .int (nI size)]) ++ List.replicate (7 - (lg_sl ([.ref (a 0), .int (nI v9), .int (nI size)])).length) Slot.unset).toArray = ls at hl ⊢
  have hl : lv_has ls 7 [(0, .ref (a 0)), (1, .int (nI v9)), (2, .int (nI size))] := hl
  have hok4 := hok.2.1.1
  have hok5 := hok.2.2.1.1
  have hok6 := hok.2.2.2.2.1
  have hlen := (hok.2.1.2 v9 hv).1
  have hby := (hok.2.1.2 v9 hv).2
  have hdv := Nat.div_le_self (vsN sg.2.1 v9).length size
  refine lv_aload_n hx hb dX2_differentBlocks_0 rfl (lv_at hl 0 rfl) ?_
  refine lv_iload_n hx hb dX2_differentBlocks_1 rfl (lv_at hl 1 rfl) ?_
  refine z_ceRV (As := [.int (nI v9)]) (rest := []) ⟨hx, hb, hml, hown, hts⟩ (c_X2_rowOf l D cs S0 ea mi sa a u sg v9 hv) (cwV 1 hts gX2_differentBlocks_X2_rowOf rfl rfl rfl (by decide +kernel) ⟨Nat.le_of_ble_eq_true rfl, Nat.le_of_ble_eq_true rfl⟩) hx0 rfl ⟨hx0, hbf, hbc, hls, hlm, hlh, hrw, hpt, hin, hhr, hok⟩ hK hE va_S.rf rfl hl.1 rfl (Nat.le_of_ble_eq_true rfl) dX2_differentBlocks_2 ⟨Nat.zero_le _, Nat.zero_le _⟩ (fun r hq9 => ?_)
  have hq9 : r = (xR u 0 v9) := hq9
  subst hq9
  refine lv_astore_n (lv' := [(3, .ref (xR u 0 v9)), (0, .ref (a 0)), (1, .int (nI v9)), (2, .int (nI size))]) hx hb dX2_differentBlocks_5 rfl hl (by decide) rfl (fun ls hl => ?_)
  refine lv_iload_n hx hb dX2_differentBlocks_6 rfl (lv_at hl 3 rfl) ?_
  refine z_csSv (As := [.int (nI size)]) (rest := []) ⟨hx, hb, hml, hown, hts⟩ (c_X2_checkSize l D cs size h2 h3) (va_cwS 1 hts gX2_differentBlocks_X2_checkSize rfl rfl rfl (by decide +kernel) ⟨Nat.le_of_ble_eq_true rfl, Nat.le_of_ble_eq_true rfl⟩) trivial hK rfl hl.1 rfl (Nat.le_of_ble_eq_true rfl) dX2_differentBlocks_7 ⟨Nat.zero_le _, Nat.zero_le _⟩ ?_
  refine lv_aload_n hx hb dX2_differentBlocks_10 rfl (lv_at hl 0 rfl) ?_
  refine z_get (ci := 2) (v := .ref (xR u 1 v9)) (C := RX1) (T := TX1) (N := 1) hx hb hts in2 hown hK (hrw v9 (by omega)).1 rfl 0 (by decide) fl72 (fun _ h9 => h9) rfl dX2_differentBlocks_11 ?_
  refine z_alen (n := ((vsN sg.2.1 v9).length)) hx hb hK (hrw v9 (by omega)).2 dX2_differentBlocks_14 ?_
  refine lv_iload_n hx hb dX2_differentBlocks_15 rfl (lv_at hl 3 rfl) ?_
  refine lv_idiv hx hb dX2_differentBlocks_16 (nI_ne0 (by omega) (by omega)) ?_
  refine zti (pk_div (by omega) (by omega) (by omega)) (y := nI (((vsN sg.2.1 v9).length) / size)) ?_
  refine lv_istore (lv' := [(4, .int (nI (((vsN sg.2.1 v9).length) / size))), (3, .ref (xR u 0 v9)), (0, .ref (a 0)), (1, .int (nI v9)), (2, .int (nI size))]) hx hb dX2_differentBlocks_17 hl (by decide) rfl (fun ls hl => ?_)
  refine lv_iconst (v := nI 0) hx hb dX2_differentBlocks_19 (by decide) ?_
  refine lv_istore (lv' := [(5, .int (nI 0)), (4, .int (nI (((vsN sg.2.1 v9).length) / size))), (3, .ref (xR u 0 v9)), (0, .ref (a 0)), (1, .int (nI v9)), (2, .int (nI size))]) hx hb dX2_differentBlocks_20 hl (by decide) rfl (fun ls hl => ?_)
  refine lv_iconst (v := nI 0) hx hb dX2_differentBlocks_22 (by decide) ?_
  refine lv_istore (lv' := [(6, .int (nI 0)), (5, .int (nI 0)), (4, .int (nI (((vsN sg.2.1 v9).length) / size))), (3, .ref (xR u 0 v9)), (0, .ref (a 0)), (1, .int (nI v9)), (2, .int (nI size))]) hx hb dX2_differentBlocks_23 hl (by decide) rfl (fun ls hl => ?_)
  refine z_loop (σ := Nat) (fun q9 => (vsN sg.2.1 v9).length / size - q9) (fun q9 ls => lv_has ls 7 [(6, .int (nI q9)), (5, .int (nI (ct (fun q8 => decide (oI (fsF (fun z => stB (bb (vsN sg.2.1 v9)) (bb (vsN sg.2.1 v9)) (z * size) (q8 * size) size) ((vsN sg.2.1 v9).length / size)) = nI q8)) q9))), (4, .int (nI ((vsN sg.2.1 v9).length / size))), (0, .ref (a 0)), (1, .int (nI v9)), (2, .int (nI size)), (3, .ref (xR u 0 v9))] ∧ (q9 ≤ (vsN sg.2.1 v9).length / size)) 0 ⟨lv_sub hl [0, 1, 2, 4, 5, 6, 3] rfl, (show 0 ≤ (vsN sg.2.1 v9).length / size from Nat.zero_le _)⟩ (fun dd25 ih25 y9 ls hd9 hI9 => ?_)
  obtain ⟨k, rfl⟩ : ∃ z, z = y9 := ⟨_, rfl⟩
  have hd25 : (vsN sg.2.1 v9).length / size - k = dd25 := hd9
  have hI9 : lv_has ls 7 [(6, .int (nI k)), (5, .int (nI (ct (fun q8 => decide (oI (fsF (fun z => stB (bb (vsN sg.2.1 v9)) (bb (vsN sg.2.1 v9)) (z * size) (q8 * size) size) ((vsN sg.2.1 v9).length / size)) = nI q8)) k))), (4, .int (nI ((vsN sg.2.1 v9).length / size))), (0, .ref (a 0)), (1, .int (nI v9)), (2, .int (nI size)), (3, .ref (xR u 0 v9))] ∧ (k ≤ (vsN sg.2.1 v9).length / size) := hI9
  obtain ⟨hl, hk⟩ := hI9
  have hc9 := ct_le (fun q8 => decide (oI (fsF (fun z => stB (bb (vsN sg.2.1 v9)) (bb (vsN sg.2.1 v9)) (z * size) (q8 * size) size) ((vsN sg.2.1 v9).length / size)) = nI q8)) k
  refine lv_iload hx hb dX2_differentBlocks_25 (lv_at hl 0 rfl) ?_
  refine lv_iload hx hb dX2_differentBlocks_27 (lv_at hl 2 rfl) ?_
  refine z_icmp_ge (tgt := 56) hx hb (by omega) (by omega) dX2_differentBlocks_29 (by decide) (fun hc29 => ?_) (fun hc29 => ?_)
  · skip
    have hc29 : (vsN sg.2.1 v9).length / size ≤ k := hc29
    have e9 : k = (vsN sg.2.1 v9).length / size := by omega
    rw [e9] at hl
    refine lv_iload hx hb dX2_differentBlocks_56 (lv_at hl 1 rfl) ?_
    exact W.iret (v := nI (ct (fun q8 => decide (oI (fsF (fun z => stB (bb (vsN sg.2.1 v9)) (bb (vsN sg.2.1 v9)) (z * size) (q8 * size) size) ((vsN sg.2.1 v9).length / size)) = nI q8)) ((vsN sg.2.1 v9).length / size))) hx hb hr (fun t ht hW => ⟨_, rfl, rfl, ht⟩) (fun q hq => absurd hq List.not_mem_nil) dX2_differentBlocks_58
  · skip
    have hc29 : k < (vsN sg.2.1 v9).length / size := hc29
    refine lv_aload_n hx hb dX2_differentBlocks_32 rfl (lv_at hl 6 rfl) ?_
    refine lv_aload_n hx hb dX2_differentBlocks_33 rfl (lv_at hl 6 rfl) ?_
    refine lv_iload hx hb dX2_differentBlocks_34 (lv_at hl 0 rfl) ?_
    refine lv_iload_n hx hb dX2_differentBlocks_36 rfl (lv_at hl 5 rfl) ?_
    refine lv_imul hx hb dX2_differentBlocks_37 ?_
    refine zti (pk_mul _ _) (y := nI (k * size)) ?_
    refine lv_iload_n hx hb dX2_differentBlocks_38 rfl (lv_at hl 5 rfl) ?_
    refine z_csS (As := [.ref (xR u 0 v9), .ref (xR u 0 v9), .int (nI (k * size)), .int (nI size)]) (rest := []) ⟨hx, hb, hml, hown, hts⟩ (c_X2_firstBlock l D cs (xR u 0 v9) (xR u 1 v9) (xR u 0 v9) (xR u 1 v9) (vsN sg.2.1 v9).length (vsN sg.2.1 v9).length (bb (vsN sg.2.1 v9)) (bb (vsN sg.2.1 v9)) (k * size) size h2 (z_blk hc29) (by omega) (by omega)) (va_cwS 4 hts gX2_differentBlocks_X2_firstBlock rfl rfl rfl (by decide +kernel) ⟨Nat.le_of_ble_eq_true rfl, Nat.le_of_ble_eq_true rfl⟩) ⟨(hrw v9 hv).1, (hrw v9 hv).2, (hrw v9 hv).1, (hrw v9 hv).2⟩ hK rfl hl.1 rfl (Nat.le_of_ble_eq_true rfl) dX2_differentBlocks_39 ⟨Nat.zero_le _, Nat.zero_le _⟩ (fun r hq9 => ?_)
    have hq9 : r = oI (fsF (fun z => stB (bb (vsN sg.2.1 v9)) (bb (vsN sg.2.1 v9)) (z * size) (k * size) size) ((vsN sg.2.1 v9).length / size)) := hq9
    subst hq9
    refine lv_iload hx hb dX2_differentBlocks_42 (lv_at hl 0 rfl) ?_
    refine lv_icmp_ne (tgt := 50) hx hb dX2_differentBlocks_44 (by decide) (fun hc44 => ?_) (fun hc44 => ?_)
    · skip
      have hc44 : ¬ (oI (fsF (fun z => stB (bb (vsN sg.2.1 v9)) (bb (vsN sg.2.1 v9)) (z * size) (k * size) size) ((vsN sg.2.1 v9).length / size))) = (nI k) := hc44
      have e9 : ct (fun q8 => decide (oI (fsF (fun z => stB (bb (vsN sg.2.1 v9)) (bb (vsN sg.2.1 v9)) (z * size) (q8 * size) size) ((vsN sg.2.1 v9).length / size)) = nI q8)) (k + 1) = ct (fun q8 => decide (oI (fsF (fun z => stB (bb (vsN sg.2.1 v9)) (bb (vsN sg.2.1 v9)) (z * size) (q8 * size) size) ((vsN sg.2.1 v9).length / size)) = nI q8)) k := ct_f (decide_eq_false hc44)
      rw [← e9] at hl
      have hl : lv_has ls 7 [(6, .int (nI k)), (5, .int (nI (ct (fun q8 => decide (oI (fsF (fun z => stB (bb (vsN sg.2.1 v9)) (bb (vsN sg.2.1 v9)) (z * size) (q8 * size) size) ((vsN sg.2.1 v9).length / size)) = nI q8)) (k + 1)))), (4, .int (nI ((vsN sg.2.1 v9).length / size))), (0, .ref (a 0)), (1, .int (nI v9)), (2, .int (nI size)), (3, .ref (xR u 0 v9))] := hl
      refine lv_iinc (v := nI (k + 1)) (lv' := [(6, .int (nI (k + 1))), (5, .int (nI (ct (fun q8 => decide (oI (fsF (fun z => stB (bb (vsN sg.2.1 v9)) (bb (vsN sg.2.1 v9)) (z * size) (q8 * size) size) ((vsN sg.2.1 v9).length / size)) = nI q8)) (k + 1)))), (4, .int (nI ((vsN sg.2.1 v9).length / size))), (0, .ref (a 0)), (1, .int (nI v9)), (2, .int (nI size)), (3, .ref (xR u 0 v9))]) hx hb dX2_differentBlocks_50 hl (k := 0) rfl (z_inc _) (by decide) rfl (fun ls hl => ?_)
      refine lv_goto (tgt := 25) hx hb dX2_differentBlocks_53 (by decide) ?_
      exact ih25 (k + 1) ls (show (vsN sg.2.1 v9).length / size - (k + 1) < dd25 by omega) ⟨lv_sub hl [0, 1, 2, 3, 4, 5, 6] rfl, (show (k + 1) ≤ (vsN sg.2.1 v9).length / size from by omega)⟩
    · skip
      have hc44 : (oI (fsF (fun z => stB (bb (vsN sg.2.1 v9)) (bb (vsN sg.2.1 v9)) (z * size) (k * size) size) ((vsN sg.2.1 v9).length / size))) = (nI k) := hc44
      refine lv_iinc (v := nI (ct (fun q8 => decide (oI (fsF (fun z => stB (bb (vsN sg.2.1 v9)) (bb (vsN sg.2.1 v9)) (z * size) (q8 * size) size) ((vsN sg.2.1 v9).length / size)) = nI q8)) k + 1)) (lv' := [(5, .int (nI (ct (fun q8 => decide (oI (fsF (fun z => stB (bb (vsN sg.2.1 v9)) (bb (vsN sg.2.1 v9)) (z * size) (q8 * size) size) ((vsN sg.2.1 v9).length / size)) = nI q8)) k + 1))), (6, .int (nI k)), (4, .int (nI ((vsN sg.2.1 v9).length / size))), (0, .ref (a 0)), (1, .int (nI v9)), (2, .int (nI size)), (3, .ref (xR u 0 v9))]) hx hb dX2_differentBlocks_47 hl (k := 1) rfl (z_inc _) (by decide) rfl (fun ls hl => ?_)
      have e9 : ct (fun q8 => decide (oI (fsF (fun z => stB (bb (vsN sg.2.1 v9)) (bb (vsN sg.2.1 v9)) (z * size) (q8 * size) size) ((vsN sg.2.1 v9).length / size)) = nI q8)) k + 1 = ct (fun q8 => decide (oI (fsF (fun z => stB (bb (vsN sg.2.1 v9)) (bb (vsN sg.2.1 v9)) (z * size) (q8 * size) size) ((vsN sg.2.1 v9).length / size)) = nI q8)) (k + 1) := (ct_t (P := (fun q8 => decide (oI (fsF (fun z => stB (bb (vsN sg.2.1 v9)) (bb (vsN sg.2.1 v9)) (z * size) (q8 * size) size) ((vsN sg.2.1 v9).length / size)) = nI q8))) (decide_eq_true hc44)).symm
      rw [e9] at hl
      have hl : lv_has ls 7 [(5, .int (nI (ct (fun q8 => decide (oI (fsF (fun z => stB (bb (vsN sg.2.1 v9)) (bb (vsN sg.2.1 v9)) (z * size) (q8 * size) size) ((vsN sg.2.1 v9).length / size)) = nI q8)) (k + 1)))), (6, .int (nI k)), (4, .int (nI ((vsN sg.2.1 v9).length / size))), (0, .ref (a 0)), (1, .int (nI v9)), (2, .int (nI size)), (3, .ref (xR u 0 v9))] := hl
      refine lv_iinc (v := nI (k + 1)) (lv' := [(6, .int (nI (k + 1))), (5, .int (nI (ct (fun q8 => decide (oI (fsF (fun z => stB (bb (vsN sg.2.1 v9)) (bb (vsN sg.2.1 v9)) (z * size) (q8 * size) size) ((vsN sg.2.1 v9).length / size)) = nI q8)) (k + 1)))), (4, .int (nI ((vsN sg.2.1 v9).length / size))), (0, .ref (a 0)), (1, .int (nI v9)), (2, .int (nI size)), (3, .ref (xR u 0 v9))]) hx hb dX2_differentBlocks_50 hl (k := 1) rfl (z_inc _) (by decide) rfl (fun ls hl => ?_)
      refine lv_goto (tgt := 25) hx hb dX2_differentBlocks_53 (by decide) ?_
      exact ih25 (k + 1) ls (show (vsN sg.2.1 v9).length / size - (k + 1) < dd25 by omega) ⟨lv_sub hl [0, 1, 2, 3, 4, 5, 6] rfl, (show (k + 1) ≤ (vsN sg.2.1 v9).length / size from by omega)⟩

set_option maxHeartbeats 4000000 in
set_option maxRecDepth 100000 in
theorem c_X2_instructions (l : Launch) (D : va_G) (cs : Nat → ClassId) (S0 ea mi : Nat) (sa : Nat → Nat) (a : Nat → Nat) (u : XU) (sg : St) (j9 : Nat) (hj : j9 < sg.2.2.1.length) : Met l yX2_instructions wsX2_instructions ({ frames := 4, cells := 0, slots := 0, locals := 85 }) (zE [.ref (a 0), .int (nI j9)] (fun H => XH D cs a u sg H) D cs S0 ea mi sa) (vp_Si (fun r => r = nI (manyN (rf (psN sg.2.2.1 j9).2.2) (psN sg.2.2.1 j9).2.1.length))) 0 0 (fun _ => False) := by
  refine Met.ofW (cc := cX2_instructions) (maxL := 2) (ret := (some .int)) (by decide) rfl ?_
  intro p e s m args below meth c s₁ B hml hv
  obtain ⟨rfl, hPH, hK, hE⟩ := hv
  have hx := B.exec
  have hb := B.bytes
  have hr := B.returns
  have hts := atoms_spec (ws := wsX2_instructions) B.pre
  have hown : s.vm.findClass RX2 = some m.cls := findClass_of_methodNamed B.named
  have hlocks := B.notSynchronized
  have fl142 := hts (.fieldLink RX2 142 "DeltaUpdater$Patch" "starts" "[I") (by decide +kernel)
  have in1 : ∀ w ∈ u_ws RX0 TX0 7, w ∈ wsX2_instructions := by decide +kernel
  have hPH : XH D cs a u sg s.heap := hPH
  obtain ⟨hx0, hbf, hbc, hls, hlm, hlh, hrw, hpt, hin, hhr, hok⟩ := hPH
  have hl := lv_entry ([.ref (a 0), .int (nI j9)]) (n := 2) (Nat.le_of_ble_eq_true rfl)
  rw [lg_entry_eq]
  generalize (lg_sl ([.ref (a 0), .int (nI j9)]) ++ List.replicate (2 - (lg_sl ([.ref (a 0), .int (nI j9)])).length) Slot.unset).toArray = ls at hl ⊢
  have hl : lv_has ls 2 [(0, .ref (a 0)), (1, .int (nI j9))] := hl
  have hok4 := hok.2.1.1
  have hok5 := hok.2.2.1.1
  have hok6 := hok.2.2.2.2.1
  have hpo := hok.2.2.1.2 j9 hj
  have hpl := hpo.2.1.1
  have hpy := hpo.2.1.2
  have hmn : manyN (rf (psN sg.2.2.1 j9).2.2) (psN sg.2.2.1 j9).2.1.length ≤ (psN sg.2.2.1 j9).2.1.length := ct_le _ _
  refine lv_aload_n hx hb dX2_instructions_0 rfl (lv_at hl 0 rfl) ?_
  refine lv_iload_n hx hb dX2_instructions_1 rfl (lv_at hl 1 rfl) ?_
  refine z_ceRV (As := [.int (nI j9)]) (rest := []) ⟨hx, hb, hml, hown, hts⟩ (c_X2_patchOf l D cs S0 ea mi sa a u sg j9 hj) (cwV 1 hts gX2_instructions_X2_patchOf rfl rfl rfl (by decide +kernel) ⟨Nat.le_of_ble_eq_true rfl, Nat.le_of_ble_eq_true rfl⟩) hx0 rfl ⟨hx0, hbf, hbc, hls, hlm, hlh, hrw, hpt, hin, hhr, hok⟩ hK hE va_S.rf rfl hl.1 rfl (Nat.le_of_ble_eq_true rfl) dX2_instructions_2 ⟨Nat.zero_le _, Nat.zero_le _⟩ (fun r hq9 => ?_)
  have hq9 : r = (xP u 0 j9) := hq9
  subst hq9
  refine z_get (ci := 1) (v := .ref (xP u 4 j9)) (C := RX0) (T := TX0) (N := 7) hx hb hts in1 hown hK (hpt j9 (by omega)).1.1 rfl 4 (by decide) fl142 (fun _ h9 => h9) rfl dX2_instructions_5 ?_
  refine z_alen (n := (manyN (rf (psN sg.2.2.1 j9).2.2) (psN sg.2.2.1 j9).2.1.length)) hx hb hK (hpt j9 (by omega)).1.2.2.1 dX2_instructions_8 ?_
  exact W.iret (v := nI (manyN (rf (psN sg.2.2.1 j9).2.2) (psN sg.2.2.1 j9).2.1.length)) hx hb hr (fun t ht hW => ⟨_, rfl, rfl, ht⟩) (fun q hq => absurd hq List.not_mem_nil) dX2_instructions_9

set_option maxHeartbeats 4000000 in
set_option maxRecDepth 100000 in
theorem c_X2_cost (l : Launch) (D : va_G) (cs : Nat → ClassId) (S0 ea mi : Nat) (sa : Nat → Nat) (a : Nat → Nat) (u : XU) (sg : St) (j9 : Nat) (hj : j9 < sg.2.2.1.length) : Met l yX2_cost wsX2_cost ({ frames := 4, cells := 0, slots := 0, locals := 85 }) (zE [.ref (a 0), .int (nI j9)] (fun H => XH D cs a u sg H) D cs S0 ea mi sa) (vp_Si (fun r => r = nI (costN (rf (psN sg.2.2.1 j9).2.2) (psN sg.2.2.1 j9).2.1.length))) 0 0 (fun _ => False) := by
  refine Met.ofW (cc := cX2_cost) (maxL := 2) (ret := (some .int)) (by decide) rfl ?_
  intro p e s m args below meth c s₁ B hml hv
  obtain ⟨rfl, hPH, hK, hE⟩ := hv
  have hx := B.exec
  have hb := B.bytes
  have hr := B.returns
  have hts := atoms_spec (ws := wsX2_cost) B.pre
  have hown : s.vm.findClass RX2 = some m.cls := findClass_of_methodNamed B.named
  have hlocks := B.notSynchronized
  have fl152 := hts (.fieldLink RX2 152 "DeltaUpdater$Patch" "price" "I") (by decide +kernel)
  have in1 : ∀ w ∈ u_ws RX0 TX0 7, w ∈ wsX2_cost := by decide +kernel
  have hPH : XH D cs a u sg s.heap := hPH
  obtain ⟨hx0, hbf, hbc, hls, hlm, hlh, hrw, hpt, hin, hhr, hok⟩ := hPH
  have hl := lv_entry ([.ref (a 0), .int (nI j9)]) (n := 2) (Nat.le_of_ble_eq_true rfl)
  rw [lg_entry_eq]
  generalize (lg_sl ([.ref (a 0), .int (nI j9)]) ++ List.replicate (2 - (lg_sl ([.ref (a 0), .int (nI j9)])).length) Slot.unset).toArray = ls at hl ⊢
  have hl : lv_has ls 2 [(0, .ref (a 0)), (1, .int (nI j9))] := hl
  have hok4 := hok.2.1.1
  have hok5 := hok.2.2.1.1
  have hok6 := hok.2.2.2.2.1
  have hpo := hok.2.2.1.2 j9 hj
  have hpl := hpo.2.1.1
  have hpy := hpo.2.1.2
  have hmn : manyN (rf (psN sg.2.2.1 j9).2.2) (psN sg.2.2.1 j9).2.1.length ≤ (psN sg.2.2.1 j9).2.1.length := ct_le _ _
  refine lv_aload_n hx hb dX2_cost_0 rfl (lv_at hl 0 rfl) ?_
  refine lv_iload_n hx hb dX2_cost_1 rfl (lv_at hl 1 rfl) ?_
  refine z_ceRV (As := [.int (nI j9)]) (rest := []) ⟨hx, hb, hml, hown, hts⟩ (c_X2_patchOf l D cs S0 ea mi sa a u sg j9 hj) (cwV 1 hts gX2_cost_X2_patchOf rfl rfl rfl (by decide +kernel) ⟨Nat.le_of_ble_eq_true rfl, Nat.le_of_ble_eq_true rfl⟩) hx0 rfl ⟨hx0, hbf, hbc, hls, hlm, hlh, hrw, hpt, hin, hhr, hok⟩ hK hE va_S.rf rfl hl.1 rfl (Nat.le_of_ble_eq_true rfl) dX2_cost_2 ⟨Nat.zero_le _, Nat.zero_le _⟩ (fun r hq9 => ?_)
  have hq9 : r = (xP u 0 j9) := hq9
  subst hq9
  refine z_get (ci := 1) (v := .int (nI (costN (rf (psN sg.2.2.1 j9).2.2) (psN sg.2.2.1 j9).2.1.length))) (C := RX0) (T := TX0) (N := 7) hx hb hts in1 hown hK (hpt j9 (by omega)).1.1 rfl 6 (by decide) fl152 (fun _ h9 => h9) rfl dX2_cost_5 ?_
  exact W.iret (v := nI (costN (rf (psN sg.2.2.1 j9).2.2) (psN sg.2.2.1 j9).2.1.length)) hx hb hr (fun t ht hW => ⟨_, rfl, rfl, ht⟩) (fun q hq => absurd hq List.not_mem_nil) dX2_cost_8

set_option maxHeartbeats 4000000 in
set_option maxRecDepth 100000 in
theorem c_X2_instruction (l : Launch) (D : va_G) (cs : Nat → ClassId) (S0 ea mi : Nat) (sa : Nat → Nat) (a : Nat → Nat) (u : XU) (sg : St) (j9 i9 w9 : Nat) (hj : j9 < sg.2.2.1.length) (hi : i9 < manyN (rf (psN sg.2.2.1 j9).2.2) (psN sg.2.2.1 j9).2.1.length) (hw : w9 < 4) : Met l yX2_instruction wsX2_instruction ({ frames := 4, cells := 0, slots := 0, locals := 85 }) (zE [.ref (a 0), .int (nI j9), .int (nI i9), .int (nI w9)] (fun H => XH D cs a u sg H) D cs S0 ea mi sa) (vp_Si (fun r => r = tellI (rf (psN sg.2.2.1 j9).2.2) (bv (psN sg.2.2.1 j9).2.1) (psN sg.2.2.1 j9).2.1.length i9 w9)) 0 0 (fun _ => False) := by
  refine Met.ofW (cc := cX2_instruction) (maxL := 5) (ret := (some .int)) (by decide) rfl ?_
  intro p e s m args below meth c s₁ B hml hv
  obtain ⟨rfl, hPH, hK, hE⟩ := hv
  have hx := B.exec
  have hb := B.bytes
  have hr := B.returns
  have hts := atoms_spec (ws := wsX2_instruction) B.pre
  have hown : s.vm.findClass RX2 = some m.cls := findClass_of_methodNamed B.named
  have hlocks := B.notSynchronized
  have fl142 := hts (.fieldLink RX2 142 "DeltaUpdater$Patch" "starts" "[I") (by decide +kernel)
  have in1 : ∀ w ∈ u_ws RX0 TX0 7, w ∈ wsX2_instruction := by decide +kernel
  have hPH : XH D cs a u sg s.heap := hPH
  obtain ⟨hx0, hbf, hbc, hls, hlm, hlh, hrw, hpt, hin, hhr, hok⟩ := hPH
  have hl := lv_entry ([.ref (a 0), .int (nI j9), .int (nI i9), .int (nI w9)]) (n := 5) (Nat.le_of_ble_eq_true rfl)
  rw [lg_entry_eq]
  generalize (lg_sl ([.ref (a 0), .int (nI j9), .int (nI i9), .int (nI w9)]) ++ List.replicate (5 - (lg_sl ([.ref (a 0), .int (nI j9), .int (nI i9), .int (nI w9)])).length) Slot.unset).toArray = ls at hl ⊢
  have hl : lv_has ls 5 [(0, .ref (a 0)), (1, .int (nI j9)), (2, .int (nI i9)), (3, .int (nI w9))] := hl
  have hok4 := hok.2.1.1
  have hok5 := hok.2.2.1.1
  have hok6 := hok.2.2.2.2.1
  have hpo := hok.2.2.1.2 j9 hj
  have hpl := hpo.2.1.1
  have hpy := hpo.2.1.2
  have hmn : manyN (rf (psN sg.2.2.1 j9).2.2) (psN sg.2.2.1 j9).2.1.length ≤ (psN sg.2.2.1 j9).2.1.length := ct_le _ _
  refine lv_aload_n hx hb dX2_instruction_0 rfl (lv_at hl 0 rfl) ?_
  refine lv_iload_n hx hb dX2_instruction_1 rfl (lv_at hl 1 rfl) ?_
  refine z_ceRV (As := [.int (nI j9)]) (rest := []) ⟨hx, hb, hml, hown, hts⟩ (c_X2_patchOf l D cs S0 ea mi sa a u sg j9 hj) (cwV 1 hts gX2_instruction_X2_patchOf rfl rfl rfl (by decide +kernel) ⟨Nat.le_of_ble_eq_true rfl, Nat.le_of_ble_eq_true rfl⟩) hx0 rfl ⟨hx0, hbf, hbc, hls, hlm, hlh, hrw, hpt, hin, hhr, hok⟩ hK hE va_S.rf rfl hl.1 rfl (Nat.le_of_ble_eq_true rfl) dX2_instruction_2 ⟨Nat.zero_le _, Nat.zero_le _⟩ (fun r hq9 => ?_)
  have hq9 : r = (xP u 0 j9) := hq9
  subst hq9
  refine lv_astore (lv' := [(4, .ref (xP u 0 j9)), (0, .ref (a 0)), (1, .int (nI j9)), (2, .int (nI i9)), (3, .int (nI w9))]) hx hb dX2_instruction_5 hl (by decide) rfl (fun ls hl => ?_)
  refine lv_iload_n hx hb dX2_instruction_7 rfl (lv_at hl 3 rfl) ?_
  refine z_ifn_lt (tgt := 21) hx hb (by omega) dX2_instruction_8 (by decide) ?_
  refine lv_iload_n hx hb dX2_instruction_11 rfl (lv_at hl 3 rfl) ?_
  refine lv_aload hx hb dX2_instruction_12 (lv_at hl 0 rfl) ?_
  refine z_get (ci := 1) (v := .ref (xP u 4 j9)) (C := RX0) (T := TX0) (N := 7) hx hb hts in1 hown hK (hpt j9 (by omega)).1.1 rfl 4 (by decide) fl142 (fun _ h9 => h9) rfl dX2_instruction_14 ?_
  refine z_alen (n := (manyN (rf (psN sg.2.2.1 j9).2.2) (psN sg.2.2.1 j9).2.1.length)) hx hb hK (hpt j9 (by omega)).1.2.2.1 dX2_instruction_17 ?_
  refine z_icmp_lt (tgt := 31) hx hb (by omega) (by omega) dX2_instruction_18 (by decide) (fun hc18 => ?_) (fun hc18 => ?_)
  · skip
    have hc18 : i9 < (manyN (rf (psN sg.2.2.1 j9).2.2) (psN sg.2.2.1 j9).2.1.length) := hc18
    refine lv_iload_n hx hb dX2_instruction_31 rfl (lv_at hl 4 rfl) ?_
    refine z_ifn_lt (tgt := 40) hx hb (by omega) dX2_instruction_32 (by decide) ?_
    refine lv_iload_n hx hb dX2_instruction_35 rfl (lv_at hl 4 rfl) ?_
    refine lv_iconst (v := nI 3) hx hb dX2_instruction_36 (by decide) ?_
    refine z_icmp_le (tgt := 50) hx hb (by omega) (by omega) dX2_instruction_37 (by decide) (fun hc37 => ?_) (fun hc37 => ?_)
    · skip
      have hc37 : w9 ≤ 3 := hc37
      refine lv_aload hx hb dX2_instruction_50 (lv_at hl 0 rfl) ?_
      refine lv_iload_n hx hb dX2_instruction_52 rfl (lv_at hl 3 rfl) ?_
      refine lv_iload_n hx hb dX2_instruction_53 rfl (lv_at hl 4 rfl) ?_
      refine z_csV (As := [.int (nI i9), .int (nI w9)]) (rest := []) ⟨hx, hb, hml, hown, hts⟩ (c_X0_tell l D cs (xP u 0 j9) (xP u 1 j9) (xP u 2 j9) (xP u 3 j9) (xP u 4 j9) (psN sg.2.2.1 j9).2.1.length (nI (xP u 5 j9)) (nI (xP u 6 j9)) (nI (litN (rf (psN sg.2.2.1 j9).2.2) (psN sg.2.2.1 j9).2.1.length)) (nI (costN (rf (psN sg.2.2.1 j9).2.2) (psN sg.2.2.1 j9).2.1.length)) (rf (psN sg.2.2.1 j9).2.2) (bv (psN sg.2.2.1 j9).2.1) hpy (by omega) i9 hi w9 hw) (cwV 2 hts gX2_instruction_X0_tell rfl rfl rfl (by decide +kernel) ⟨Nat.le_of_ble_eq_true rfl, Nat.le_of_ble_eq_true rfl⟩) (hpt j9 (by omega)).1.1 rfl (hpt j9 hj).1 hK rfl hl.1 rfl (Nat.le_of_ble_eq_true rfl) dX2_instruction_54 ⟨Nat.zero_le _, Nat.zero_le _⟩ (fun r hq9 => ?_)
      have hq9 : r = tellI (rf (psN sg.2.2.1 j9).2.2) (bv (psN sg.2.2.1 j9).2.1) (psN sg.2.2.1 j9).2.1.length i9 w9 := hq9
      subst hq9
      exact W.iret (v := tellI (rf (psN sg.2.2.1 j9).2.2) (bv (psN sg.2.2.1 j9).2.1) (psN sg.2.2.1 j9).2.1.length i9 w9) hx hb hr (fun t ht hW => ⟨_, rfl, rfl, ht⟩) (fun q hq => absurd hq List.not_mem_nil) dX2_instruction_57
    · skip
      have hc37 : 3 < w9 := hc37
      omega
  · skip
    have hc18 : (manyN (rf (psN sg.2.2.1 j9).2.2) (psN sg.2.2.1 j9).2.1.length) ≤ i9 := hc18
    omega

set_option maxHeartbeats 4000000 in
set_option maxRecDepth 100000 in
theorem c_X2_installedLength (l : Launch) (D : va_G) (cs : Nat → ClassId) (S0 ea mi : Nat) (sa : Nat → Nat) (a : Nat → Nat) (u : XU) (sg : St)  : Met l yX2_installedLength wsX2_installedLength ({ frames := 0, cells := 0, slots := 0, locals := 0 }) (zE [.ref (a 0)] (fun H => XH D cs a u sg H) D cs S0 ea mi sa) (vp_Si (fun r => r = nI sg.2.2.2.1.length)) 0 0 (fun _ => False) := by
  refine Met.ofW (cc := cX2_installedLength) (maxL := 1) (ret := (some .int)) (by decide) rfl ?_
  intro p e s m args below meth c s₁ B hml hv
  obtain ⟨rfl, hPH, hK, hE⟩ := hv
  have hx := B.exec
  have hb := B.bytes
  have hr := B.returns
  have hts := atoms_spec (ws := wsX2_installedLength) B.pre
  have hown : s.vm.findClass RX2 = some m.cls := findClass_of_methodNamed B.named
  have hlocks := B.notSynchronized
  have fl32 := hts (.fieldLink RX2 32 "DeltaUpdater" "installed" "LDeltaUpdater$Row;") (by decide +kernel)
  have fl72 := hts (.fieldLink RX2 72 "DeltaUpdater$Row" "bytes" "[I") (by decide +kernel)
  have in2 : ∀ w ∈ u_ws RX1 TX1 1, w ∈ wsX2_installedLength := by decide +kernel
  have in3 : ∀ w ∈ u_ws RX2 TX2 8, w ∈ wsX2_installedLength := by decide +kernel
  have hPH : XH D cs a u sg s.heap := hPH
  obtain ⟨hx0, hbf, hbc, hls, hlm, hlh, hrw, hpt, hin, hhr, hok⟩ := hPH
  have hl := lv_entry ([.ref (a 0)]) (n := 1) (Nat.le_of_ble_eq_true rfl)
  rw [lg_entry_eq]
  generalize (lg_sl ([.ref (a 0)]) ++ List.replicate (1 - (lg_sl ([.ref (a 0)])).length) Slot.unset).toArray = ls at hl ⊢
  have hl : lv_has ls 1 [(0, .ref (a 0))] := hl
  have hok4 := hok.2.1.1
  have hok5 := hok.2.2.1.1
  have hok6 := hok.2.2.2.2.1
  have hinl := hok.2.2.2.1.1
  refine lv_aload_n hx hb dX2_installedLength_0 rfl (lv_at hl 0 rfl) ?_
  refine z_get (ci := 3) (v := .ref (xe u 3)) (C := RX2) (T := TX2) (N := 8) hx hb hts in3 hown hK hx0 rfl 4 (by decide) fl32 (fun _ h9 => h9) rfl dX2_installedLength_1 ?_
  refine z_get (ci := 2) (v := .ref (xe u 4)) (C := RX1) (T := TX1) (N := 1) hx hb hts in2 hown hK hin.1 rfl 0 (by decide) fl72 (fun _ h9 => h9) rfl dX2_installedLength_4 ?_
  refine z_alen (n := sg.2.2.2.1.length) hx hb hK hin.2 dX2_installedLength_7 ?_
  exact W.iret (v := nI sg.2.2.2.1.length) hx hb hr (fun t ht hW => ⟨_, rfl, rfl, ht⟩) (fun q hq => absurd hq List.not_mem_nil) dX2_installedLength_8

set_option maxHeartbeats 4000000 in
set_option maxRecDepth 100000 in
theorem c_X2_isInstalled (l : Launch) (D : va_G) (cs : Nat → ClassId) (S0 ea mi : Nat) (sa : Nat → Nat) (a : Nat → Nat) (u : XU) (sg : St) (v9 : Nat) (hv : v9 < sg.2.1.length) : Met l yX2_isInstalled wsX2_isInstalled ({ frames := 4, cells := 0, slots := 0, locals := 85 }) (zE [.ref (a 0), .int (nI v9)] (fun H => XH D cs a u sg H) D cs S0 ea mi sa) (vp_Si (fun r => r = bI (eqL (vsN sg.2.1 v9) sg.2.2.2.1))) 0 0 (fun _ => False) := by
  refine Met.ofW (cc := cX2_isInstalled) (maxL := 2) (ret := (some .boolean)) (by decide) rfl ?_
  intro p e s m args below meth c s₁ B hml hv
  obtain ⟨rfl, hPH, hK, hE⟩ := hv
  have hx := B.exec
  have hb := B.bytes
  have hr := B.returns
  have hts := atoms_spec (ws := wsX2_isInstalled) B.pre
  have hown : s.vm.findClass RX2 = some m.cls := findClass_of_methodNamed B.named
  have hlocks := B.notSynchronized
  have fl32 := hts (.fieldLink RX2 32 "DeltaUpdater" "installed" "LDeltaUpdater$Row;") (by decide +kernel)
  have in3 : ∀ w ∈ u_ws RX2 TX2 8, w ∈ wsX2_isInstalled := by decide +kernel
  have hPH : XH D cs a u sg s.heap := hPH
  obtain ⟨hx0, hbf, hbc, hls, hlm, hlh, hrw, hpt, hin, hhr, hok⟩ := hPH
  have hl := lv_entry ([.ref (a 0), .int (nI v9)]) (n := 2) (Nat.le_of_ble_eq_true rfl)
  rw [lg_entry_eq]
  generalize (lg_sl ([.ref (a 0), .int (nI v9)]) ++ List.replicate (2 - (lg_sl ([.ref (a 0), .int (nI v9)])).length) Slot.unset).toArray = ls at hl ⊢
  have hl : lv_has ls 2 [(0, .ref (a 0)), (1, .int (nI v9))] := hl
  have hok4 := hok.2.1.1
  have hok5 := hok.2.2.1.1
  have hok6 := hok.2.2.2.2.1
  have hlen := (hok.2.1.2 v9 hv).1
  have hby := (hok.2.1.2 v9 hv).2
  have hinl := hok.2.2.2.1.1
  refine lv_aload_n hx hb dX2_isInstalled_0 rfl (lv_at hl 0 rfl) ?_
  refine lv_iload_n hx hb dX2_isInstalled_1 rfl (lv_at hl 1 rfl) ?_
  refine z_ceRV (As := [.int (nI v9)]) (rest := []) ⟨hx, hb, hml, hown, hts⟩ (c_X2_rowOf l D cs S0 ea mi sa a u sg v9 hv) (cwV 1 hts gX2_isInstalled_X2_rowOf rfl rfl rfl (by decide +kernel) ⟨Nat.le_of_ble_eq_true rfl, Nat.le_of_ble_eq_true rfl⟩) hx0 rfl ⟨hx0, hbf, hbc, hls, hlm, hlh, hrw, hpt, hin, hhr, hok⟩ hK hE va_S.rf rfl hl.1 rfl (Nat.le_of_ble_eq_true rfl) dX2_isInstalled_2 ⟨Nat.zero_le _, Nat.zero_le _⟩ (fun r hq9 => ?_)
  have hq9 : r = (xR u 0 v9) := hq9
  subst hq9
  refine lv_aload_n hx hb dX2_isInstalled_5 rfl (lv_at hl 0 rfl) ?_
  refine z_get (ci := 3) (v := .ref (xe u 3)) (C := RX2) (T := TX2) (N := 8) hx hb hts in3 hown hK hx0 rfl 4 (by decide) fl32 (fun _ h9 => h9) rfl dX2_isInstalled_6 ?_
  refine z_csV (As := [.ref (xe u 3)]) (rest := []) ⟨hx, hb, hml, hown, hts⟩ (c_X1_hasBytesOf l D cs (xR u 0 v9) (xR u 1 v9) (xe u 3) (xe u 4) (vsN sg.2.1 v9).length sg.2.2.2.1.length (bb (vsN sg.2.1 v9)) (bb sg.2.2.2.1) (by omega) (by omega)) (cwV 1 hts gX2_isInstalled_X1_hasBytesOf rfl rfl rfl (by decide +kernel) ⟨Nat.le_of_ble_eq_true rfl, Nat.le_of_ble_eq_true rfl⟩) (hrw v9 (by omega)).1 rfl ⟨(hrw v9 hv).1, (hrw v9 hv).2, hin.1, hin.2⟩ hK rfl hl.1 rfl (Nat.le_of_ble_eq_true rfl) dX2_isInstalled_9 ⟨Nat.zero_le _, Nat.zero_le _⟩ (fun r hq9 => ?_)
  have hq9 : r = bI (eqL (vsN sg.2.1 v9) sg.2.2.2.1) := hq9
  subst hq9
  exact W.zret (v := bI (eqL (vsN sg.2.1 v9) sg.2.2.2.1)) hx hb hr (bI_nar _) (fun t ht hW => ⟨_, rfl, rfl, ht⟩) (fun q hq => absurd hq List.not_mem_nil) dX2_isInstalled_12

set_option maxHeartbeats 4000000 in
set_option maxRecDepth 100000 in
theorem c_X2_digest (l : Launch) (D : va_G) (cs : Nat → ClassId) (S0 ea mi : Nat) (sa : Nat → Nat) (a : Nat → Nat) (u : XU) (sg : St)  : Met l yX2_digest wsX2_digest ({ frames := 3, cells := 0, slots := 0, locals := 76 }) (zE [.ref (a 0)] (fun H => XH D cs a u sg H) D cs S0 ea mi sa) (vp_Sl (fun r => r = dgS sg)) 0 0 (fun _ => False) := by
  refine Met.ofW (cc := cX2_digest) (maxL := 5) (ret := (some .long)) (by decide) rfl ?_
  intro p e s m args below meth c s₁ B hml hv
  obtain ⟨rfl, hPH, hK, hE⟩ := hv
  have hx := B.exec
  have hb := B.bytes
  have hr := B.returns
  have hts := atoms_spec (ws := wsX2_digest) B.pre
  have hown : s.vm.findClass RX2 = some m.cls := findClass_of_methodNamed B.named
  have hlocks := B.notSynchronized
  have fl13 := hts (.fieldLink RX2 13 "DeltaUpdater" "buffered" "I") (by decide +kernel)
  have fl20 := hts (.fieldLink RX2 20 "DeltaUpdater" "stored" "Ljava/util/ArrayList;") (by decide +kernel)
  have fl24 := hts (.fieldLink RX2 24 "DeltaUpdater" "made" "Ljava/util/ArrayList;") (by decide +kernel)
  have fl32 := hts (.fieldLink RX2 32 "DeltaUpdater" "installed" "LDeltaUpdater$Row;") (by decide +kernel)
  have fl36 := hts (.fieldLink RX2 36 "DeltaUpdater" "history" "Ljava/util/ArrayList;") (by decide +kernel)
  have fl72 := hts (.fieldLink RX2 72 "DeltaUpdater$Row" "bytes" "[I") (by decide +kernel)
  have fl9 := hts (.fieldLink RX2 9 "DeltaUpdater" "buffer" "[I") (by decide +kernel)
  have in2 : ∀ w ∈ u_ws RX1 TX1 1, w ∈ wsX2_digest := by decide +kernel
  have in3 : ∀ w ∈ u_ws RX2 TX2 8, w ∈ wsX2_digest := by decide +kernel
  have hPH : XH D cs a u sg s.heap := hPH
  obtain ⟨hx0, hbf, hbc, hls, hlm, hlh, hrw, hpt, hin, hhr, hok⟩ := hPH
  have hl := lv_entry ([.ref (a 0)]) (n := 5) (Nat.le_of_ble_eq_true rfl)
  rw [lg_entry_eq]
  generalize (lg_sl ([.ref (a 0)]) ++ List.replicate (5 - (lg_sl ([.ref (a 0)])).length) Slot.unset).toArray = ls at hl ⊢
  have hl : lv_has ls 5 [(0, .ref (a 0))] := hl
  have hok4 := hok.2.1.1
  have hok5 := hok.2.2.1.1
  have hok6 := hok.2.2.2.2.1
  have hinl := hok.2.2.2.1.1
  have hbl := hok.1.1
  refine lv_ldc2 (v := 233) hx hb hown (hts (.constantLong RX2 179 (233)) (by decide +kernel)) dX2_digest_0 ?_
  refine lv_aload_n hx hb dX2_digest_3 rfl (lv_at hl 0 rfl) ?_
  refine z_get (ci := 3) (v := .ref (a 1)) (C := RX2) (T := TX2) (N := 8) hx hb hts in3 hown hK hx0 rfl 0 (by decide) fl9 (fun _ h9 => h9) rfl dX2_digest_4 ?_
  refine lv_aload_n hx hb dX2_digest_7 rfl (lv_at hl 0 rfl) ?_
  refine z_get (ci := 3) (v := .int (nI sg.1.length)) (C := RX2) (T := TX2) (N := 8) hx hb hts in3 hown hK hx0 rfl 1 (by decide) fl13 (fun _ h9 => h9) rfl dX2_digest_8 ?_
  refine z_csSl (As := [.long 233, .ref (a 1), .int (nI sg.1.length)]) (rest := []) ⟨hx, hb, hml, hown, hts⟩ (c_X2_digestOfBytes l D cs (a 1) 400 (xF u 0) 233 sg.1.length (by omega) (by omega)) (va_cwS 3 hts gX2_digest_X2_digestOfBytes rfl rfl rfl (by decide +kernel) ⟨Nat.le_of_ble_eq_true rfl, Nat.le_of_ble_eq_true rfl⟩) hbf hK rfl hl.1 rfl (Nat.le_of_ble_eq_true rfl) dX2_digest_11 ⟨Nat.zero_le _, Nat.zero_le _⟩ (fun r hq9 => ?_)
  have hq9 : r = dgR 233 (xF u 0) sg.1.length := hq9
  subst hq9
  refine ztl (y := dgR 233 (bb sg.1) sg.1.length) (dgR_cong hbc) ?_
  refine lv_lstore_n (lv' := [(1, .long (dgR 233 (bb sg.1) sg.1.length)), (0, .ref (a 0))]) hx hb dX2_digest_14 rfl hl (by decide) rfl (fun ls hl => ?_)
  refine lv_lload_n hx hb dX2_digest_15 rfl (lv_at hl 0 rfl) ?_
  refine lv_ldc2 (v := 31) hx hb hown (hts (.constantLong RX2 185 (31)) (by decide +kernel)) dX2_digest_16 ?_
  refine lv_lmul hx hb dX2_digest_19 ?_
  refine lv_aload_n hx hb dX2_digest_20 rfl (lv_at hl 1 rfl) ?_
  refine z_get (ci := 3) (v := .ref (a 4)) (C := RX2) (T := TX2) (N := 8) hx hb hts in3 hown hK hx0 rfl 2 (by decide) fl20 (fun _ h9 => h9) rfl dX2_digest_21 ?_
  refine z_csV (As := []) (rest := [.long ((dgR 233 (bb sg.1) sg.1.length) * 31)]) ⟨hx, hb, hml, hown, hts⟩ (c_Jx4a65c_size_8abf5 l D cs (a 4) (xe u 0) sg.2.1.length (xm u 0)) (cwV 0 hts gX2_digest_Jx4a65c_size_8abf5 rfl rfl rfl (by decide +kernel) ⟨Nat.le_of_ble_eq_true rfl, Nat.le_of_ble_eq_true rfl⟩) hls.1 rfl hls.1 hK rfl hl.1 rfl (Nat.le_of_ble_eq_true rfl) dX2_digest_24 ⟨Nat.zero_le _, Nat.zero_le _⟩ (fun r hq9 => ?_)
  have hq9 : r = nI sg.2.1.length := hq9
  subst hq9
  refine lv_i2l (v := (nI sg.2.1.length).toInt64) hx hb dX2_digest_27 rfl ?_
  refine lv_ladd hx hb dX2_digest_28 ?_
  refine lv_lstore_n (lv' := [(1, .long (((dgR 233 (bb sg.1) sg.1.length) * 31) + ((nI sg.2.1.length).toInt64))), (0, .ref (a 0))]) hx hb dX2_digest_29 rfl hl (by decide) rfl (fun ls hl => ?_)
  refine lv_iconst (v := nI 0) hx hb dX2_digest_30 (by decide) ?_
  refine lv_istore_n (lv' := [(3, .int (nI 0)), (1, .long (((dgR 233 (bb sg.1) sg.1.length) * 31) + ((nI sg.2.1.length).toInt64))), (0, .ref (a 0))]) hx hb dX2_digest_31 rfl hl (by decide) rfl (fun ls hl => ?_)
  refine z_loop (σ := Nat) (fun q9 => sg.2.1.length - q9) (fun q9 ls => lv_has ls 5 [(3, .int (nI q9)), (1, .long (dgV (dgR 233 (bb sg.1) sg.1.length * 31 + (nI sg.2.1.length).toInt64) sg.2.1 q9)), (0, .ref (a 0))] ∧ (q9 ≤ sg.2.1.length)) 0 ⟨lv_sub hl [0, 1, 2] rfl, (show 0 ≤ sg.2.1.length from by omega)⟩ (fun dd32 ih32 y9 ls hd9 hI9 => ?_)
  obtain ⟨k, rfl⟩ : ∃ z, z = y9 := ⟨_, rfl⟩
  have hd32 : sg.2.1.length - k = dd32 := hd9
  have hI9 : lv_has ls 5 [(3, .int (nI k)), (1, .long (dgV (dgR 233 (bb sg.1) sg.1.length * 31 + (nI sg.2.1.length).toInt64) sg.2.1 k)), (0, .ref (a 0))] ∧ (k ≤ sg.2.1.length) := hI9
  obtain ⟨hl, hk⟩ := hI9
  refine lv_iload_n hx hb dX2_digest_32 rfl (lv_at hl 0 rfl) ?_
  refine lv_aload_n hx hb dX2_digest_33 rfl (lv_at hl 2 rfl) ?_
  refine z_get (ci := 3) (v := .ref (a 4)) (C := RX2) (T := TX2) (N := 8) hx hb hts in3 hown hK hx0 rfl 2 (by decide) fl20 (fun _ h9 => h9) rfl dX2_digest_34 ?_
  refine z_csV (As := []) (rest := [.int (nI k)]) ⟨hx, hb, hml, hown, hts⟩ (c_Jx4a65c_size_8abf5 l D cs (a 4) (xe u 0) sg.2.1.length (xm u 0)) (cwV 0 hts gX2_digest_Jx4a65c_size_8abf5 rfl rfl rfl (by decide +kernel) ⟨Nat.le_of_ble_eq_true rfl, Nat.le_of_ble_eq_true rfl⟩) hls.1 rfl hls.1 hK rfl hl.1 rfl (Nat.le_of_ble_eq_true rfl) dX2_digest_37 ⟨Nat.zero_le _, Nat.zero_le _⟩ (fun r hq9 => ?_)
  have hq9 : r = nI sg.2.1.length := hq9
  subst hq9
  refine z_icmp_ge (tgt := 78) hx hb (by omega) (by omega) dX2_digest_40 (by decide) (fun hc40 => ?_) (fun hc40 => ?_)
  · skip
    have hc40 : sg.2.1.length ≤ k := hc40
    have e9 : k = sg.2.1.length := by omega
    rw [e9] at hl
    refine lv_lload_n hx hb dX2_digest_78 rfl (lv_at hl 1 rfl) ?_
    refine lv_ldc2 (v := 31) hx hb hown (hts (.constantLong RX2 185 (31)) (by decide +kernel)) dX2_digest_79 ?_
    refine lv_lmul hx hb dX2_digest_82 ?_
    refine lv_aload_n hx hb dX2_digest_83 rfl (lv_at hl 2 rfl) ?_
    refine z_get (ci := 3) (v := .ref (a 5)) (C := RX2) (T := TX2) (N := 8) hx hb hts in3 hown hK hx0 rfl 3 (by decide) fl24 (fun _ h9 => h9) rfl dX2_digest_84 ?_
    refine z_csV (As := []) (rest := [.long ((dgV (dgR 233 (bb sg.1) sg.1.length * 31 + (nI sg.2.1.length).toInt64) sg.2.1 sg.2.1.length) * 31)]) ⟨hx, hb, hml, hown, hts⟩ (c_Jx4a65c_size_8abf5 l D cs (a 5) (xe u 1) sg.2.2.1.length (xm u 1)) (cwV 0 hts gX2_digest_Jx4a65c_size_8abf5 rfl rfl rfl (by decide +kernel) ⟨Nat.le_of_ble_eq_true rfl, Nat.le_of_ble_eq_true rfl⟩) hlm.1 rfl hlm.1 hK rfl hl.1 rfl (Nat.le_of_ble_eq_true rfl) dX2_digest_87 ⟨Nat.zero_le _, Nat.zero_le _⟩ (fun r hq9 => ?_)
    have hq9 : r = nI sg.2.2.1.length := hq9
    subst hq9
    refine lv_i2l (v := (nI sg.2.2.1.length).toInt64) hx hb dX2_digest_90 rfl ?_
    refine lv_ladd hx hb dX2_digest_91 ?_
    refine lv_lstore_n (lv' := [(1, .long (((dgV (dgR 233 (bb sg.1) sg.1.length * 31 + (nI sg.2.1.length).toInt64) sg.2.1 sg.2.1.length) * 31) + ((nI sg.2.2.1.length).toInt64))), (3, .int (nI sg.2.1.length)), (0, .ref (a 0))]) hx hb dX2_digest_92 rfl hl (by decide) rfl (fun ls hl => ?_)
    refine lv_iconst (v := nI 0) hx hb dX2_digest_93 (by decide) ?_
    refine lv_istore_n (lv' := [(3, .int (nI 0)), (1, .long (((dgV (dgR 233 (bb sg.1) sg.1.length * 31 + (nI sg.2.1.length).toInt64) sg.2.1 sg.2.1.length) * 31) + ((nI sg.2.2.1.length).toInt64))), (0, .ref (a 0))]) hx hb dX2_digest_94 rfl hl (by decide) rfl (fun ls hl => ?_)
    refine z_loop (σ := Nat) (fun q9 => sg.2.2.1.length - q9) (fun q9 ls => lv_has ls 5 [(3, .int (nI q9)), (1, .long (dgQ (dgV (dgR 233 (bb sg.1) sg.1.length * 31 + (nI sg.2.1.length).toInt64) sg.2.1 sg.2.1.length * 31 + (nI sg.2.2.1.length).toInt64) sg.2.2.1 q9)), (0, .ref (a 0))] ∧ (q9 ≤ sg.2.2.1.length)) 0 ⟨lv_sub hl [0, 1, 2] rfl, (show 0 ≤ sg.2.2.1.length from by omega)⟩ (fun dd95 ih95 y9 ls hd9 hI9 => ?_)
    obtain ⟨j, rfl⟩ : ∃ z, z = y9 := ⟨_, rfl⟩
    have hd95 : sg.2.2.1.length - j = dd95 := hd9
    have hI9 : lv_has ls 5 [(3, .int (nI j)), (1, .long (dgQ (dgV (dgR 233 (bb sg.1) sg.1.length * 31 + (nI sg.2.1.length).toInt64) sg.2.1 sg.2.1.length * 31 + (nI sg.2.2.1.length).toInt64) sg.2.2.1 j)), (0, .ref (a 0))] ∧ (j ≤ sg.2.2.1.length) := hI9
    obtain ⟨hl, hj⟩ := hI9
    refine lv_iload_n hx hb dX2_digest_95 rfl (lv_at hl 0 rfl) ?_
    refine lv_aload_n hx hb dX2_digest_96 rfl (lv_at hl 2 rfl) ?_
    refine z_get (ci := 3) (v := .ref (a 5)) (C := RX2) (T := TX2) (N := 8) hx hb hts in3 hown hK hx0 rfl 3 (by decide) fl24 (fun _ h9 => h9) rfl dX2_digest_97 ?_
    refine z_csV (As := []) (rest := [.int (nI j)]) ⟨hx, hb, hml, hown, hts⟩ (c_Jx4a65c_size_8abf5 l D cs (a 5) (xe u 1) sg.2.2.1.length (xm u 1)) (cwV 0 hts gX2_digest_Jx4a65c_size_8abf5 rfl rfl rfl (by decide +kernel) ⟨Nat.le_of_ble_eq_true rfl, Nat.le_of_ble_eq_true rfl⟩) hlm.1 rfl hlm.1 hK rfl hl.1 rfl (Nat.le_of_ble_eq_true rfl) dX2_digest_100 ⟨Nat.zero_le _, Nat.zero_le _⟩ (fun r hq9 => ?_)
    have hq9 : r = nI sg.2.2.1.length := hq9
    subst hq9
    refine z_icmp_ge (tgt := 128) hx hb (by omega) (by omega) dX2_digest_103 (by decide) (fun hc103 => ?_) (fun hc103 => ?_)
    · skip
      have hc103 : sg.2.2.1.length ≤ j := hc103
      have e9 : j = sg.2.2.1.length := by omega
      rw [e9] at hl
      refine lv_lload_n hx hb dX2_digest_128 rfl (lv_at hl 1 rfl) ?_
      refine lv_aload_n hx hb dX2_digest_129 rfl (lv_at hl 2 rfl) ?_
      refine z_get (ci := 3) (v := .ref (xe u 3)) (C := RX2) (T := TX2) (N := 8) hx hb hts in3 hown hK hx0 rfl 4 (by decide) fl32 (fun _ h9 => h9) rfl dX2_digest_130 ?_
      refine z_get (ci := 2) (v := .ref (xe u 4)) (C := RX1) (T := TX1) (N := 1) hx hb hts in2 hown hK hin.1 rfl 0 (by decide) fl72 (fun _ h9 => h9) rfl dX2_digest_133 ?_
      refine lv_aload_n hx hb dX2_digest_136 rfl (lv_at hl 2 rfl) ?_
      refine z_get (ci := 3) (v := .ref (xe u 3)) (C := RX2) (T := TX2) (N := 8) hx hb hts in3 hown hK hx0 rfl 4 (by decide) fl32 (fun _ h9 => h9) rfl dX2_digest_137 ?_
      refine z_get (ci := 2) (v := .ref (xe u 4)) (C := RX1) (T := TX1) (N := 1) hx hb hts in2 hown hK hin.1 rfl 0 (by decide) fl72 (fun _ h9 => h9) rfl dX2_digest_140 ?_
      refine z_alen (n := sg.2.2.2.1.length) hx hb hK hin.2 dX2_digest_143 ?_
      refine z_csSl (As := [.long (dgQ (dgV (dgR 233 (bb sg.1) sg.1.length * 31 + (nI sg.2.1.length).toInt64) sg.2.1 sg.2.1.length * 31 + (nI sg.2.2.1.length).toInt64) sg.2.2.1 sg.2.2.1.length), .ref (xe u 4), .int (nI sg.2.2.2.1.length)]) (rest := []) ⟨hx, hb, hml, hown, hts⟩ (c_X2_digestOfBytes l D cs (xe u 4) sg.2.2.2.1.length (bb sg.2.2.2.1) (dgQ (dgV (dgR 233 (bb sg.1) sg.1.length * 31 + (nI sg.2.1.length).toInt64) sg.2.1 sg.2.1.length * 31 + (nI sg.2.2.1.length).toInt64) sg.2.2.1 sg.2.2.1.length) sg.2.2.2.1.length (by omega) (by omega)) (va_cwS 3 hts gX2_digest_X2_digestOfBytes rfl rfl rfl (by decide +kernel) ⟨Nat.le_of_ble_eq_true rfl, Nat.le_of_ble_eq_true rfl⟩) hin.2 hK rfl hl.1 rfl (Nat.le_of_ble_eq_true rfl) dX2_digest_144 ⟨Nat.zero_le _, Nat.zero_le _⟩ (fun r hq9 => ?_)
      have hq9 : r = dgR (dgQ (dgV (dgR 233 (bb sg.1) sg.1.length * 31 + (nI sg.2.1.length).toInt64) sg.2.1 sg.2.1.length * 31 + (nI sg.2.2.1.length).toInt64) sg.2.2.1 sg.2.2.1.length) (bb sg.2.2.2.1) sg.2.2.2.1.length := hq9
      subst hq9
      refine lv_lstore_n (lv' := [(1, .long (dgR (dgQ (dgV (dgR 233 (bb sg.1) sg.1.length * 31 + (nI sg.2.1.length).toInt64) sg.2.1 sg.2.1.length * 31 + (nI sg.2.2.1.length).toInt64) sg.2.2.1 sg.2.2.1.length) (bb sg.2.2.2.1) sg.2.2.2.1.length)), (3, .int (nI sg.2.2.1.length)), (0, .ref (a 0))]) hx hb dX2_digest_147 rfl hl (by decide) rfl (fun ls hl => ?_)
      refine lv_lload_n hx hb dX2_digest_148 rfl (lv_at hl 0 rfl) ?_
      refine lv_ldc2 (v := 31) hx hb hown (hts (.constantLong RX2 185 (31)) (by decide +kernel)) dX2_digest_149 ?_
      refine lv_lmul hx hb dX2_digest_152 ?_
      refine lv_aload_n hx hb dX2_digest_153 rfl (lv_at hl 2 rfl) ?_
      refine z_get (ci := 3) (v := .ref (a 6)) (C := RX2) (T := TX2) (N := 8) hx hb hts in3 hown hK hx0 rfl 5 (by decide) fl36 (fun _ h9 => h9) rfl dX2_digest_154 ?_
      refine z_csV (As := []) (rest := [.long ((dgR (dgQ (dgV (dgR 233 (bb sg.1) sg.1.length * 31 + (nI sg.2.1.length).toInt64) sg.2.1 sg.2.1.length * 31 + (nI sg.2.2.1.length).toInt64) sg.2.2.1 sg.2.2.1.length) (bb sg.2.2.2.1) sg.2.2.2.1.length) * 31)]) ⟨hx, hb, hml, hown, hts⟩ (c_Jx4a65c_size_8abf5 l D cs (a 6) (xe u 2) sg.2.2.2.2.length (xm u 2)) (cwV 0 hts gX2_digest_Jx4a65c_size_8abf5 rfl rfl rfl (by decide +kernel) ⟨Nat.le_of_ble_eq_true rfl, Nat.le_of_ble_eq_true rfl⟩) hlh.1 rfl hlh.1 hK rfl hl.1 rfl (Nat.le_of_ble_eq_true rfl) dX2_digest_157 ⟨Nat.zero_le _, Nat.zero_le _⟩ (fun r hq9 => ?_)
      have hq9 : r = nI sg.2.2.2.2.length := hq9
      subst hq9
      refine lv_i2l (v := (nI sg.2.2.2.2.length).toInt64) hx hb dX2_digest_160 rfl ?_
      refine lv_ladd hx hb dX2_digest_161 ?_
      exact W.lret (v := ((dgR (dgQ (dgV (dgR 233 (bb sg.1) sg.1.length * 31 + (nI sg.2.1.length).toInt64) sg.2.1 sg.2.1.length * 31 + (nI sg.2.2.1.length).toInt64) sg.2.2.1 sg.2.2.1.length) (bb sg.2.2.2.1) sg.2.2.2.1.length) * 31) + ((nI sg.2.2.2.2.length).toInt64)) hx hb hr (fun t ht hW => ⟨_, rfl, rfl, ht⟩) (fun q hq => absurd hq List.not_mem_nil) dX2_digest_162
    · skip
      have hc103 : j < sg.2.2.1.length := hc103
      refine lv_lload_n hx hb dX2_digest_106 rfl (lv_at hl 1 rfl) ?_
      refine lv_aload_n hx hb dX2_digest_107 rfl (lv_at hl 2 rfl) ?_
      refine z_get (ci := 3) (v := .ref (a 5)) (C := RX2) (T := TX2) (N := 8) hx hb hts in3 hown hK hx0 rfl 3 (by decide) fl24 (fun _ h9 => h9) rfl dX2_digest_108 ?_
      refine lv_iload_n hx hb dX2_digest_111 rfl (lv_at hl 0 rfl) ?_
      refine z_csRV (As := [.int (nI j)]) (rest := [.long (dgQ (dgV (dgR 233 (bb sg.1) sg.1.length * 31 + (nI sg.2.1.length).toInt64) sg.2.1 sg.2.1.length * 31 + (nI sg.2.2.1.length).toInt64) sg.2.2.1 j)]) ⟨hx, hb, hml, hown, hts⟩ (c_Jx4a65c_get_915e3 l D cs (a 5) (xe u 1) sg.2.2.1.length (xc u 1) ((xP u 0) j) j (xm u 1) (xg u 1) (by omega) (hlm.2.1 (by omega)).2 (by have := hlm.2.2.1; omega) (hlm.2.2.2 j (by omega))) (cwV 1 hts gX2_digest_Jx4a65c_get_915e3 rfl rfl rfl (by decide +kernel) ⟨Nat.le_of_ble_eq_true rfl, Nat.le_of_ble_eq_true rfl⟩) hlm.1 rfl ⟨hlm.1, (hlm.2.1 (by omega)).1⟩ hK rfl hl.1 rfl (Nat.le_of_ble_eq_true rfl) dX2_digest_112 ⟨Nat.zero_le _, Nat.zero_le _⟩ (fun r hq9 => ?_)
      have hq9 : r = (xP u 0 j) := hq9
      subst hq9
      refine va_castY (C := RX0) (nm := RX0) hx hb hown (hts (.classLink RX2 111 RX0) (by decide +kernel)) (hE.2.2.2.2.1 (RX0, RX0) (by decide)) (z_recv hK (hpt j (by omega)).1.1 rfl) dX2_digest_115 ?_
      have hjo := (hok.2.2.1.2 j (by omega)).2.1
      refine z_csSl (As := [.long (dgQ (dgV (dgR 233 (bb sg.1) sg.1.length * 31 + (nI sg.2.1.length).toInt64) sg.2.1 sg.2.1.length * 31 + (nI sg.2.2.1.length).toInt64) sg.2.2.1 j), .ref (xP u 0 j)]) (rest := []) ⟨hx, hb, hml, hown, hts⟩ (c_X2_digestOfPatch l D cs (xP u 0 j) (xP u 1 j) (xP u 2 j) (xP u 3 j) (xP u 4 j) (psN sg.2.2.1 j).2.1.length (nI (xP u 5 j)) (nI (xP u 6 j)) (nI (litN (rf (psN sg.2.2.1 j).2.2) (psN sg.2.2.1 j).2.1.length)) (nI (costN (rf (psN sg.2.2.1 j).2.2) (psN sg.2.2.1 j).2.1.length)) (rf (psN sg.2.2.1 j).2.2) (bv (psN sg.2.2.1 j).2.1) hjo.2 (by have := hjo.1; omega) (dgQ (dgV (dgR 233 (bb sg.1) sg.1.length * 31 + (nI sg.2.1.length).toInt64) sg.2.1 sg.2.1.length * 31 + (nI sg.2.2.1.length).toInt64) sg.2.2.1 j)) (va_cwS 2 hts gX2_digest_X2_digestOfPatch rfl rfl rfl (by decide +kernel) ⟨Nat.le_of_ble_eq_true rfl, Nat.le_of_ble_eq_true rfl⟩) (hpt j (by omega)).1 hK rfl hl.1 rfl (Nat.le_of_ble_eq_true rfl) dX2_digest_118 ⟨Nat.zero_le _, Nat.zero_le _⟩ (fun r hq9 => ?_)
      have hq9 : r = dgP (dgQ (dgV (dgR 233 (bb sg.1) sg.1.length * 31 + (nI sg.2.1.length).toInt64) sg.2.1 sg.2.1.length * 31 + (nI sg.2.2.1.length).toInt64) sg.2.2.1 j) (tellI (rf (psN sg.2.2.1 j).2.2) (bv (psN sg.2.2.1 j).2.1) (psN sg.2.2.1 j).2.1.length) (manyN (rf (psN sg.2.2.1 j).2.2) (psN sg.2.2.1 j).2.1.length) := hq9
      subst hq9
      refine lv_lstore_n (lv' := [(1, .long (dgP (dgQ (dgV (dgR 233 (bb sg.1) sg.1.length * 31 + (nI sg.2.1.length).toInt64) sg.2.1 sg.2.1.length * 31 + (nI sg.2.2.1.length).toInt64) sg.2.2.1 j) (tellI (rf (psN sg.2.2.1 j).2.2) (bv (psN sg.2.2.1 j).2.1) (psN sg.2.2.1 j).2.1.length) (manyN (rf (psN sg.2.2.1 j).2.2) (psN sg.2.2.1 j).2.1.length))), (3, .int (nI j)), (0, .ref (a 0))]) hx hb dX2_digest_121 rfl hl (by decide) rfl (fun ls hl => ?_)
      refine lv_iinc (v := nI (j + 1)) (lv' := [(3, .int (nI (j + 1))), (1, .long (dgP (dgQ (dgV (dgR 233 (bb sg.1) sg.1.length * 31 + (nI sg.2.1.length).toInt64) sg.2.1 sg.2.1.length * 31 + (nI sg.2.2.1.length).toInt64) sg.2.2.1 j) (tellI (rf (psN sg.2.2.1 j).2.2) (bv (psN sg.2.2.1 j).2.1) (psN sg.2.2.1 j).2.1.length) (manyN (rf (psN sg.2.2.1 j).2.2) (psN sg.2.2.1 j).2.1.length))), (0, .ref (a 0))]) hx hb dX2_digest_122 hl (k := 1) rfl (z_inc _) (by decide) rfl (fun ls hl => ?_)
      refine lv_goto (tgt := 95) hx hb dX2_digest_125 (by decide) ?_
      exact ih95 (j + 1) ls (show sg.2.2.1.length - (j + 1) < dd95 by omega) ⟨lv_sub hl [0, 1, 2] rfl, (show (j + 1) ≤ sg.2.2.1.length from by omega)⟩
  · skip
    have hc40 : k < sg.2.1.length := hc40
    refine lv_aload_n hx hb dX2_digest_43 rfl (lv_at hl 2 rfl) ?_
    refine z_get (ci := 3) (v := .ref (a 4)) (C := RX2) (T := TX2) (N := 8) hx hb hts in3 hown hK hx0 rfl 2 (by decide) fl20 (fun _ h9 => h9) rfl dX2_digest_44 ?_
    refine lv_iload_n hx hb dX2_digest_47 rfl (lv_at hl 0 rfl) ?_
    refine z_csRV (As := [.int (nI k)]) (rest := []) ⟨hx, hb, hml, hown, hts⟩ (c_Jx4a65c_get_915e3 l D cs (a 4) (xe u 0) sg.2.1.length (xc u 0) ((xR u 0) k) k (xm u 0) (xg u 0) (by omega) (hls.2.1 (by omega)).2 (by have := hls.2.2.1; omega) (hls.2.2.2 k (by omega))) (cwV 1 hts gX2_digest_Jx4a65c_get_915e3 rfl rfl rfl (by decide +kernel) ⟨Nat.le_of_ble_eq_true rfl, Nat.le_of_ble_eq_true rfl⟩) hls.1 rfl ⟨hls.1, (hls.2.1 (by omega)).1⟩ hK rfl hl.1 rfl (Nat.le_of_ble_eq_true rfl) dX2_digest_48 ⟨Nat.zero_le _, Nat.zero_le _⟩ (fun r hq9 => ?_)
    have hq9 : r = (xR u 0 k) := hq9
    subst hq9
    refine va_castY (C := RX1) (nm := RX1) hx hb hown (hts (.classLink RX2 27 RX1) (by decide +kernel)) (hE.2.2.2.2.1 (RX1, RX1) (by decide)) (z_recv hK (hrw k (by omega)).1 rfl) dX2_digest_51 ?_
    refine lv_astore (lv' := [(4, .ref (xR u 0 k)), (3, .int (nI k)), (1, .long (dgV (dgR 233 (bb sg.1) sg.1.length * 31 + (nI sg.2.1.length).toInt64) sg.2.1 k)), (0, .ref (a 0))]) hx hb dX2_digest_54 hl (by decide) rfl (fun ls hl => ?_)
    refine lv_lload_n hx hb dX2_digest_56 rfl (lv_at hl 2 rfl) ?_
    refine lv_aload hx hb dX2_digest_57 (lv_at hl 0 rfl) ?_
    refine z_get (ci := 2) (v := .ref (xR u 1 k)) (C := RX1) (T := TX1) (N := 1) hx hb hts in2 hown hK (hrw k (by omega)).1 rfl 0 (by decide) fl72 (fun _ h9 => h9) rfl dX2_digest_59 ?_
    refine lv_aload hx hb dX2_digest_62 (lv_at hl 0 rfl) ?_
    refine z_get (ci := 2) (v := .ref (xR u 1 k)) (C := RX1) (T := TX1) (N := 1) hx hb hts in2 hown hK (hrw k (by omega)).1 rfl 0 (by decide) fl72 (fun _ h9 => h9) rfl dX2_digest_64 ?_
    refine z_alen (n := ((vsN sg.2.1 k).length)) hx hb hK (hrw k (by omega)).2 dX2_digest_67 ?_
    have hkl := (hok.2.1.2 k (by omega)).1
    refine z_csSl (As := [.long (dgV (dgR 233 (bb sg.1) sg.1.length * 31 + (nI sg.2.1.length).toInt64) sg.2.1 k), .ref (xR u 1 k), .int (nI ((vsN sg.2.1 k).length))]) (rest := []) ⟨hx, hb, hml, hown, hts⟩ (c_X2_digestOfBytes l D cs (xR u 1 k) (vsN sg.2.1 k).length (bb (vsN sg.2.1 k)) (dgV (dgR 233 (bb sg.1) sg.1.length * 31 + (nI sg.2.1.length).toInt64) sg.2.1 k) (vsN sg.2.1 k).length (by omega) (by omega)) (va_cwS 3 hts gX2_digest_X2_digestOfBytes rfl rfl rfl (by decide +kernel) ⟨Nat.le_of_ble_eq_true rfl, Nat.le_of_ble_eq_true rfl⟩) (hrw k (by omega)).2 hK rfl hl.1 rfl (Nat.le_of_ble_eq_true rfl) dX2_digest_68 ⟨Nat.zero_le _, Nat.zero_le _⟩ (fun r hq9 => ?_)
    have hq9 : r = dgR (dgV (dgR 233 (bb sg.1) sg.1.length * 31 + (nI sg.2.1.length).toInt64) sg.2.1 k) (bb (vsN sg.2.1 k)) (vsN sg.2.1 k).length := hq9
    subst hq9
    refine lv_lstore_n (lv' := [(1, .long (dgR (dgV (dgR 233 (bb sg.1) sg.1.length * 31 + (nI sg.2.1.length).toInt64) sg.2.1 k) (bb (vsN sg.2.1 k)) (vsN sg.2.1 k).length)), (4, .ref (xR u 0 k)), (3, .int (nI k)), (0, .ref (a 0))]) hx hb dX2_digest_71 rfl hl (by decide) rfl (fun ls hl => ?_)
    refine lv_iinc (v := nI (k + 1)) (lv' := [(3, .int (nI (k + 1))), (1, .long (dgR (dgV (dgR 233 (bb sg.1) sg.1.length * 31 + (nI sg.2.1.length).toInt64) sg.2.1 k) (bb (vsN sg.2.1 k)) (vsN sg.2.1 k).length)), (4, .ref (xR u 0 k)), (0, .ref (a 0))]) hx hb dX2_digest_72 hl (k := 2) rfl (z_inc _) (by decide) rfl (fun ls hl => ?_)
    refine lv_goto (tgt := 32) hx hb dX2_digest_75 (by decide) ?_
    exact ih32 (k + 1) ls (show sg.2.1.length - (k + 1) < dd32 by omega) ⟨lv_sub hl [0, 1, 3] rfl, (show (k + 1) ≤ sg.2.1.length from by omega)⟩
