/-! a quotient of two ints is a number; newness -/
def nwD (k n : Nat) : UInt64 := if n = 0 then FP.dconst0 else FP.ddiv (FP.i2d (nI k)) (FP.i2d (nI n))
theorem nI_nz {n : Nat} (h : ¬ n = 0) (h2 : n < 2 ^ 31) : nI n ≠ 0 := fun h3 => h ((nI_eq h2 (by decide)).mp (show nI n = nI 0 from h3))

set_option maxHeartbeats 4000000 in
set_option maxRecDepth 100000 in
theorem c_X2_newness (l : Launch) (D : va_G) (cs : Nat → ClassId) (S0 ea mi : Nat) (sa : Nat → Nat) (a : Nat → Nat) (u : XU) (sg : St) (j9 : Nat) (hj : j9 < sg.2.2.1.length) : Met l yX2_newness wsX2_newness ({ frames := 4, cells := 0, slots := 0, locals := 85 }) (zE [.ref (a 0), .int (nI j9)] (fun H => XH D cs a u sg H) D cs S0 ea mi sa) (vp_Sd (fun r => r = nwD (litN (rf (psN sg.2.2.1 j9).2.2) (psN sg.2.2.1 j9).2.1.length) (psN sg.2.2.1 j9).2.1.length)) 0 0 (fun _ => False) := by
  refine Met.ofW (cc := cX2_newness) (maxL := 4) (ret := (some .double)) (by decide) rfl ?_
  intro p e s m args below meth c s₁ B hml hv
  obtain ⟨rfl, hPH, hK, hE⟩ := hv
  have hx := B.exec
  have hb := B.bytes
  have hr := B.returns
  have hts := atoms_spec (ws := wsX2_newness) B.pre
  have hown : s.vm.findClass RX2 = some m.cls := findClass_of_methodNamed B.named
  have hlocks := B.notSynchronized
  have fl132 := hts (.fieldLink RX2 132 "DeltaUpdater$Patch" "origins" "[I") (by decide +kernel)
  have fl155 := hts (.fieldLink RX2 155 "DeltaUpdater$Patch" "literalBytes" "I") (by decide +kernel)
  have in1 : ∀ w ∈ u_ws RX0 TX0 7, w ∈ wsX2_newness := by decide +kernel
  have hPH : XH D cs a u sg s.heap := hPH
  obtain ⟨hx0, hbf, hbc, hls, hlm, hlh, hrw, hpt, hin, hhr, hok⟩ := hPH
  have hl := lv_entry ([.ref (a 0), .int (nI j9)]) (n := 4) (Nat.le_of_ble_eq_true rfl)
  rw [lg_entry_eq]
  generalize (lg_sl ([.ref (a 0), .int (nI j9)]) ++ List.replicate (4 - (lg_sl ([.ref (a 0), .int (nI j9)])).length) Slot.unset).toArray = ls at hl ⊢
  have hl : lv_has ls 4 [(0, .ref (a 0)), (1, .int (nI j9))] := hl
  have hok4 := hok.2.1.1
  have hok5 := hok.2.2.1.1
  have hok6 := hok.2.2.2.2.1
  have hpo := hok.2.2.1.2 j9 hj
  have hpl := hpo.2.1.1
  refine lv_aload_n hx hb dX2_newness_0 rfl (lv_at hl 0 rfl) ?_
  refine lv_iload_n hx hb dX2_newness_1 rfl (lv_at hl 1 rfl) ?_
  refine z_ceRV (As := [.int (nI j9)]) (rest := []) ⟨hx, hb, hml, hown, hts⟩ (c_X2_patchOf l D cs S0 ea mi sa a u sg j9 hj) (cwV 1 hts gX2_newness_X2_patchOf rfl rfl rfl (by decide +kernel) ⟨Nat.le_of_ble_eq_true rfl, Nat.le_of_ble_eq_true rfl⟩) hx0 rfl ⟨hx0, hbf, hbc, hls, hlm, hlh, hrw, hpt, hin, hhr, hok⟩ hK hE va_S.rf rfl hl.1 rfl (Nat.le_of_ble_eq_true rfl) dX2_newness_2 ⟨Nat.zero_le _, Nat.zero_le _⟩ (fun r hq9 => ?_)
  have hq9 : r = (xP u 0 j9) := hq9
  subst hq9
  refine lv_astore_n (lv' := [(2, .ref (xP u 0 j9)), (0, .ref (a 0)), (1, .int (nI j9))]) hx hb dX2_newness_5 rfl hl (by decide) rfl (fun ls hl => ?_)
  refine lv_aload_n hx hb dX2_newness_6 rfl (lv_at hl 0 rfl) ?_
  refine z_get (ci := 1) (v := .ref (xP u 3 j9)) (C := RX0) (T := TX0) (N := 7) hx hb hts in1 hown hK (hpt j9 (by omega)).1.1 rfl 3 (by decide) fl132 (fun _ h9 => h9) rfl dX2_newness_7 ?_
  refine z_alen (n := ((psN sg.2.2.1 j9).2.1.length)) hx hb hK (hpt j9 (by omega)).1.2.1 dX2_newness_10 ?_
  refine lv_istore_n (lv' := [(3, .int (nI ((psN sg.2.2.1 j9).2.1.length))), (2, .ref (xP u 0 j9)), (0, .ref (a 0)), (1, .int (nI j9))]) hx hb dX2_newness_11 rfl hl (by decide) rfl (fun ls hl => ?_)
  refine lv_iload_n hx hb dX2_newness_12 rfl (lv_at hl 0 rfl) ?_
  refine z_ifn_ne (tgt := 20) hx hb (by omega) dX2_newness_13 (by decide) (fun hc13 => ?_) (fun hc13 => ?_)
  · skip
    have hc13 : ¬ (psN sg.2.2.1 j9).2.1.length = 0 := hc13
    refine lv_aload_n hx hb dX2_newness_20 rfl (lv_at hl 1 rfl) ?_
    refine z_get (ci := 1) (v := .int (nI (litN (rf (psN sg.2.2.1 j9).2.2) (psN sg.2.2.1 j9).2.1.length))) (C := RX0) (T := TX0) (N := 7) hx hb hts in1 hown hK (hpt j9 (by omega)).1.1 rfl 5 (by decide) fl155 (fun _ h9 => h9) rfl dX2_newness_21 ?_
    refine lv_i2d hx hb dX2_newness_24 ?_
    refine lv_iload_n hx hb dX2_newness_25 rfl (lv_at hl 0 rfl) ?_
    refine lv_i2d hx hb dX2_newness_26 ?_
    refine lv_ddiv hx hb dX2_newness_27 (nn_div _ _ (nI_nz hc13 (by omega))) ?_
    exact W.dret (v := FP.ddiv (FP.i2d (nI (litN (rf (psN sg.2.2.1 j9).2.2) (psN sg.2.2.1 j9).2.1.length))) (FP.i2d (nI ((psN sg.2.2.1 j9).2.1.length)))) hx hb hr (fun t ht hW => ⟨_, rfl, by unfold nwD; rw [if_neg hc13], ht⟩) (fun q hq => absurd hq List.not_mem_nil) dX2_newness_28
  · skip
    have hc13 : (psN sg.2.2.1 j9).2.1.length = 0 := hc13
    refine lv_dconst0 hx hb dX2_newness_16 ?_
    refine lv_goto (tgt := 28) hx hb dX2_newness_17 (by decide) ?_
    exact W.dret (v := FP.dconst0) hx hb hr (fun t ht hW => ⟨_, rfl, by unfold nwD; rw [if_pos hc13], ht⟩) (fun q hq => absurd hq List.not_mem_nil) dX2_newness_28

