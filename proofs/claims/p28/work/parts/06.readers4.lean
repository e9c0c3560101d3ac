/-! what an instruction tells: both sides -/
theorem z_w4 {w : Nat} (h : w < 4) : w = 0 ∨ w = 1 ∨ w = 2 ∨ w = 3 := by omega
theorem pos_ok {o : Nat → Int32} {n i : Nat} (h : i < manyN o n) : posN o n i < n ∧ stA o (posN o n i) = true ∧ ct (stA o) (posN o n i) = i := kth_ok h
theorem pos_uq {o : Nat → Int32} {n b : Nat} (hb : b < n) (h : stA o b = true) : posN o n (ct (stA o) b) = b := kth_uq hb h
/-- no start between j and the next one -/
theorem pos_ge {o : Nat → Int32} {n j t : Nat} (ht : t < manyN o n) (hc : ct (stA o) j = t) : j ≤ posN o n t := by
  obtain ⟨h1, h2, h3⟩ := pos_ok ht
  rcases Nat.lt_or_ge (posN o n t) j with q | q
  · have := ct_lt q h2; omega
  · exact q
theorem end_last {o : Nat → Int32} {n i : Nat} (h : ct (stA o) n = i + 1) : endN o n i = n := by
  unfold endN; rw [if_neg]; unfold manyN; omega
theorem end_next {o : Nat → Int32} {n i e : Nat} (he : e < n) (h1 : stA o e = true) (h2 : ct (stA o) e = i + 1) : endN o n i = e := by
  have h3 := ct_lt he h1
  have h4 := pos_uq he h1
  unfold endN
  rw [if_pos (by unfold manyN; omega), ← h2, h4]
theorem end_le {o : Nat → Int32} {n i : Nat} : endN o n i ≤ n := by
  unfold endN
  split
  · rename_i h
    exact Nat.le_of_lt (pos_ok h).1
  · exact Nat.le_refl n
theorem pos_end {o : Nat → Int32} {n i : Nat} (h : i < manyN o n) : posN o n i < endN o n i := by
  obtain ⟨h1, h2, h3⟩ := pos_ok h
  unfold endN
  split
  · rename_i h4
    obtain ⟨g1, g2, g3⟩ := pos_ok h4
    rcases Nat.lt_trichotomy (posN o n i) (posN o n (i + 1)) with q | q | q
    · exact q
    · rw [← q, h3] at g3; omega
    · have := ct_lt q g2; omega
  · exact h1
theorem tell_0 {o : Nat → Int32} {v : Nat → Nat} {n i : Nat} : tellI o v n i 0 = bI (ltA o (posN o n i)) := rfl
theorem tell_1 {o : Nat → Int32} {v : Nat → Nat} {n i : Nat} : tellI o v n i 1 = o (posN o n i) := rfl
theorem tell_2 {o : Nat → Int32} {v : Nat → Nat} {n i : Nat} : tellI o v n i 2 = nI (endN o n i - posN o n i) := rfl
theorem tell_3l {o : Nat → Int32} {v : Nat → Nat} {n i : Nat} (h : o (posN o n i) = (-1)) : tellI o v n i 3 = nI (wsum v (posN o n i) (endN o n i - posN o n i)) := if_pos h
theorem tell_3c {o : Nat → Int32} {v : Nat → Nat} {n i : Nat} (h : ¬ o (posN o n i) = (-1)) : tellI o v n i 3 = (-1) := if_neg h
theorem ltA_t {o : Nat → Int32} {k : Nat} (h : o k = (-1)) : ltA o k = true := decide_eq_true h
theorem ltA_f {o : Nat → Int32} {k : Nat} (h : ¬ o k = (-1)) : ltA o k = false := decide_eq_false h

set_option maxHeartbeats 4000000 in
set_option maxRecDepth 100000 in
theorem c_X0_tell (l : Launch) (D : va_G) (cs : Nat → ClassId) (pa gr ga oa sa n0 : Nat) (pb pg lb pr : Int32) (o : Nat → Int32) (v : Nat → Nat) (hv : ∀ i, v i < 256) (hn0 : n0 ≤ 400) (i : Nat) (hi : i < manyN o n0) (w : Nat) (hw : w < 4) : Met l yX0_tell wsX0_tell ({ frames := 1, cells := 0, slots := 0, locals := 25 }) (zP [.ref pa, .int (nI i), .int (nI w)] (fun H => At D pa (.inr (1, [.int pb, .int pg, .ref gr, .ref oa, .ref sa, .int lb, .int pr])) H ∧ At D oa (fa cs n0 o) H ∧ At D sa (fa cs (manyN o n0) (fun i => nI (posN o n0 i))) H ∧ At D gr (.inr (2, [.ref ga])) H ∧ At D ga (fa cs n0 (fun i => nI (v i))) H) D cs) (vp_Si (fun r => r = tellI o v n0 i w)) 0 0 (fun _ => False) := by
  refine Met.ofW (cc := cX0_tell) (maxL := 6) (ret := (some .int)) (by decide) rfl ?_
  intro p e s m args below meth c s₁ B hml hv
  obtain ⟨rfl, hPH, hK⟩ := hv
  have hx := B.exec
  have hb := B.bytes
  have hr := B.returns
  have hts := atoms_spec (ws := wsX0_tell) B.pre
  have hown : s.vm.findClass RX0 = some m.cls := findClass_of_methodNamed B.named
  have hlocks := B.notSynchronized
  have fl18 := hts (.fieldLink RX0 18 "DeltaUpdater$Patch" "goalRow" "LDeltaUpdater$Row;") (by decide +kernel)
  have fl22 := hts (.fieldLink RX0 22 "DeltaUpdater$Patch" "origins" "[I") (by decide +kernel)
  have fl30 := hts (.fieldLink RX0 30 "DeltaUpdater$Patch" "starts" "[I") (by decide +kernel)
  have in1 : ∀ w ∈ u_ws RX0 TX0 7, w ∈ wsX0_tell := by decide +kernel
  have hPH : At D pa (.inr (1, [.int pb, .int pg, .ref gr, .ref oa, .ref sa, .int lb, .int pr])) s.heap ∧ At D oa (fa cs n0 o) s.heap ∧ At D sa (fa cs (manyN o n0) (fun i => nI (posN o n0 i))) s.heap ∧ At D gr (.inr (2, [.ref ga])) s.heap ∧ At D ga (fa cs n0 (fun i => nI (v i))) s.heap := hPH
  obtain ⟨hpa, hoa, hsa, hgr, hga⟩ := hPH
  have hl := lv_entry ([.ref pa, .int (nI i), .int (nI w)]) (n := 6) (Nat.le_of_ble_eq_true rfl)
  rw [lg_entry_eq]
  generalize (lg_sl ([.ref pa, .int (nI i), .int (nI w)]) ++ List.replicate (6 - (lg_sl ([.ref pa, .int (nI i), .int (nI w)])).length) Slot.unset).toArray = ls at hl ⊢
  have hl : lv_has ls 6 [(0, .ref pa), (1, .int (nI i)), (2, .int (nI w))] := hl
  have hmn : manyN o n0 ≤ n0 := ct_le (stA o) n0
  have hps := pos_ok hi
  have hpe := pos_end hi
  have hel := end_le (o := o) (n := n0) (i := i)
  refine lv_aload_n hx hb dX0_tell_0 rfl (lv_at hl 0 rfl) ?_
  refine z_get (ci := 1) (v := .ref sa) (C := RX0) (T := TX0) (N := 7) hx hb hts in1 hown hK hpa rfl 4 (by decide) fl30 (fun _ h9 => h9) rfl dX0_tell_1 ?_
  refine lv_iload_n hx hb dX0_tell_4 rfl (lv_at hl 1 rfl) ?_
  refine z_iald (k := i) (f := fun i => nI ((posN o n0) i)) hx hb hK hsa (by omega) (by omega) dX0_tell_5 ?_
  refine zti (y := nI ((posN o n0) i)) rfl ?_
  refine lv_istore_n (lv' := [(3, .int (nI ((posN o n0) i))), (0, .ref pa), (1, .int (nI i)), (2, .int (nI w))]) hx hb dX0_tell_6 rfl hl (by decide) rfl (fun ls hl => ?_)
  refine lv_iload_n hx hb dX0_tell_7 rfl (lv_at hl 2 rfl) ?_
  refine lv_iconst (v := nI 1) hx hb dX0_tell_8 (by decide) ?_
  refine lv_iadd hx hb dX0_tell_9 ?_
  refine zti (nI_add _ _) (y := nI (i + 1)) ?_
  refine lv_aload_n hx hb dX0_tell_10 rfl (lv_at hl 1 rfl) ?_
  refine z_get (ci := 1) (v := .ref sa) (C := RX0) (T := TX0) (N := 7) hx hb hts in1 hown hK hpa rfl 4 (by decide) fl30 (fun _ h9 => h9) rfl dX0_tell_11 ?_
  refine z_alen (n := (manyN o n0)) hx hb hK hsa dX0_tell_14 ?_
  refine z_icmp_ge (tgt := 29) hx hb (by omega) (by omega) dX0_tell_15 (by decide) (fun hc15 => ?_) (fun hc15 => ?_)
  · skip
    have hc15 : (manyN o n0) ≤ i + 1 := hc15
    refine lv_aload_n hx hb dX0_tell_29 rfl (lv_at hl 1 rfl) ?_
    refine z_get (ci := 1) (v := .ref oa) (C := RX0) (T := TX0) (N := 7) hx hb hts in1 hown hK hpa rfl 3 (by decide) fl22 (fun _ h9 => h9) rfl dX0_tell_30 ?_
    refine z_alen (n := n0) hx hb hK hoa dX0_tell_33 ?_
    have hen : endN o n0 i = n0 := if_neg (show ¬ i + 1 < manyN o n0 by omega)
    refine zti (y := nI (endN o n0 i)) (congrArg nI hen.symm) ?_
    refine lv_istore (lv' := [(4, .int (nI (endN o n0 i))), (3, .int (nI ((posN o n0) i))), (0, .ref pa), (1, .int (nI i)), (2, .int (nI w))]) hx hb dX0_tell_34 hl (by decide) rfl (fun ls hl => ?_)
    refine lv_aload_n hx hb dX0_tell_36 rfl (lv_at hl 2 rfl) ?_
    refine z_get (ci := 1) (v := .ref oa) (C := RX0) (T := TX0) (N := 7) hx hb hts in1 hown hK hpa rfl 3 (by decide) fl22 (fun _ h9 => h9) rfl dX0_tell_37 ?_
    refine lv_iload_n hx hb dX0_tell_40 rfl (lv_at hl 1 rfl) ?_
    refine z_iald (k := ((posN o n0) i)) (f := o) hx hb hK hoa (by omega) (by omega) dX0_tell_41 ?_
    refine lv_iconst (v := (-1 : Int32)) hx hb dX0_tell_42 (by decide) ?_
    refine lv_icmp_ne (tgt := 50) hx hb dX0_tell_43 (by decide) (fun hc43 => ?_) (fun hc43 => ?_)
    · skip
      have hc43 : ¬ (o ((posN o n0) i)) = (-1 : Int32) := hc43
      refine lv_iconst (v := nI 0) hx hb dX0_tell_50 (by decide) ?_
      refine zti (y := bI false) rfl ?_
      refine lv_istore (lv' := [(5, .int (bI false)), (4, .int (nI (endN o n0 i))), (3, .int (nI ((posN o n0) i))), (0, .ref pa), (1, .int (nI i)), (2, .int (nI w))]) hx hb dX0_tell_51 hl (by decide) rfl (fun ls hl => ?_)
      refine lv_iload_n hx hb dX0_tell_53 rfl (lv_at hl 5 rfl) ?_
      rcases z_w4 hw with hw9 | hw9 | hw9 | hw9
      · skip
        subst hw9
        refine lv_tableIn (tgt := 80) hx hb dX0_tell_54 (by decide) (by decide) rfl (by decide) ?_
        refine lv_iload hx hb dX0_tell_80 (lv_at hl 0 rfl) ?_
        refine z_ifb_eq (tgt := 89) hx hb dX0_tell_82 (by decide) (fun _ => ?_) (fun h9 => absurd h9 (by decide))
        refine lv_iconst (v := nI 0) hx hb dX0_tell_89 (by decide) ?_
        exact W.iret (v := nI 0) hx hb hr (fun t ht hW => ⟨_, rfl, (by rw [tell_0, ltA_f hc43]; rfl), ht⟩) (fun q hq => absurd hq List.not_mem_nil) dX0_tell_90
      · skip
        subst hw9
        refine lv_tableIn (tgt := 91) hx hb dX0_tell_54 (by decide) (by decide) rfl (by decide) ?_
        refine lv_aload_n hx hb dX0_tell_91 rfl (lv_at hl 3 rfl) ?_
        refine z_get (ci := 1) (v := .ref oa) (C := RX0) (T := TX0) (N := 7) hx hb hts in1 hown hK hpa rfl 3 (by decide) fl22 (fun _ h9 => h9) rfl dX0_tell_92 ?_
        refine lv_iload_n hx hb dX0_tell_95 rfl (lv_at hl 2 rfl) ?_
        refine z_iald (k := ((posN o n0) i)) (f := o) hx hb hK hoa (by omega) (by omega) dX0_tell_96 ?_
        exact W.iret (v := o ((posN o n0) i)) hx hb hr (fun t ht hW => ⟨_, rfl, tell_1.symm, ht⟩) (fun q hq => absurd hq List.not_mem_nil) dX0_tell_97
      · skip
        subst hw9
        refine lv_tableIn (tgt := 98) hx hb dX0_tell_54 (by decide) (by decide) rfl (by decide) ?_
        refine lv_iload hx hb dX0_tell_98 (lv_at hl 1 rfl) ?_
        refine lv_iload_n hx hb dX0_tell_100 rfl (lv_at hl 2 rfl) ?_
        refine lv_isub hx hb dX0_tell_101 ?_
        refine zti (pk_sub (by omega)) (y := nI ((endN o n0 i) - ((posN o n0) i))) ?_
        exact W.iret (v := nI ((endN o n0 i) - ((posN o n0) i))) hx hb hr (fun t ht hW => ⟨_, rfl, tell_2.symm, ht⟩) (fun q hq => absurd hq List.not_mem_nil) dX0_tell_102
      · skip
        subst hw9
        refine lv_tableOut (tgt := 103) hx hb dX0_tell_54 (by decide) (by decide) ?_
        refine lv_iload hx hb dX0_tell_103 (lv_at hl 0 rfl) ?_
        refine z_ifb_eq (tgt := 123) hx hb dX0_tell_105 (by decide) (fun _ => ?_) (fun h9 => absurd h9 (by decide))
        refine lv_iconst (v := (-1 : Int32)) hx hb dX0_tell_123 (by decide) ?_
        exact W.iret (v := (-1 : Int32)) hx hb hr (fun t ht hW => ⟨_, rfl, (tell_3c hc43).symm, ht⟩) (fun q hq => absurd hq List.not_mem_nil) dX0_tell_124
    · skip
      have hc43 : (o ((posN o n0) i)) = (-1 : Int32) := hc43
      refine lv_iconst (v := nI 1) hx hb dX0_tell_46 (by decide) ?_
      refine lv_goto (tgt := 51) hx hb dX0_tell_47 (by decide) ?_
      refine zti (y := bI true) rfl ?_
      refine lv_istore (lv' := [(5, .int (bI true)), (4, .int (nI (endN o n0 i))), (3, .int (nI ((posN o n0) i))), (0, .ref pa), (1, .int (nI i)), (2, .int (nI w))]) hx hb dX0_tell_51 hl (by decide) rfl (fun ls hl => ?_)
      refine lv_iload_n hx hb dX0_tell_53 rfl (lv_at hl 5 rfl) ?_
      rcases z_w4 hw with hw9 | hw9 | hw9 | hw9
      · skip
        subst hw9
        refine lv_tableIn (tgt := 80) hx hb dX0_tell_54 (by decide) (by decide) rfl (by decide) ?_
        refine lv_iload hx hb dX0_tell_80 (lv_at hl 0 rfl) ?_
        refine z_ifb_eq (tgt := 89) hx hb dX0_tell_82 (by decide) (fun h9 => absurd h9 (by decide)) (fun _ => ?_)
        refine lv_iconst (v := nI 1) hx hb dX0_tell_85 (by decide) ?_
        refine lv_goto (tgt := 90) hx hb dX0_tell_86 (by decide) ?_
        exact W.iret (v := nI 1) hx hb hr (fun t ht hW => ⟨_, rfl, (by rw [tell_0, ltA_t hc43]; rfl), ht⟩) (fun q hq => absurd hq List.not_mem_nil) dX0_tell_90
      · skip
        subst hw9
        refine lv_tableIn (tgt := 91) hx hb dX0_tell_54 (by decide) (by decide) rfl (by decide) ?_
        refine lv_aload_n hx hb dX0_tell_91 rfl (lv_at hl 3 rfl) ?_
        refine z_get (ci := 1) (v := .ref oa) (C := RX0) (T := TX0) (N := 7) hx hb hts in1 hown hK hpa rfl 3 (by decide) fl22 (fun _ h9 => h9) rfl dX0_tell_92 ?_
        refine lv_iload_n hx hb dX0_tell_95 rfl (lv_at hl 2 rfl) ?_
        refine z_iald (k := ((posN o n0) i)) (f := o) hx hb hK hoa (by omega) (by omega) dX0_tell_96 ?_
        exact W.iret (v := o ((posN o n0) i)) hx hb hr (fun t ht hW => ⟨_, rfl, tell_1.symm, ht⟩) (fun q hq => absurd hq List.not_mem_nil) dX0_tell_97
      · skip
        subst hw9
        refine lv_tableIn (tgt := 98) hx hb dX0_tell_54 (by decide) (by decide) rfl (by decide) ?_
        refine lv_iload hx hb dX0_tell_98 (lv_at hl 1 rfl) ?_
        refine lv_iload_n hx hb dX0_tell_100 rfl (lv_at hl 2 rfl) ?_
        refine lv_isub hx hb dX0_tell_101 ?_
        refine zti (pk_sub (by omega)) (y := nI ((endN o n0 i) - ((posN o n0) i))) ?_
        exact W.iret (v := nI ((endN o n0 i) - ((posN o n0) i))) hx hb hr (fun t ht hW => ⟨_, rfl, tell_2.symm, ht⟩) (fun q hq => absurd hq List.not_mem_nil) dX0_tell_102
      · skip
        subst hw9
        refine lv_tableOut (tgt := 103) hx hb dX0_tell_54 (by decide) (by decide) ?_
        refine lv_iload hx hb dX0_tell_103 (lv_at hl 0 rfl) ?_
        refine z_ifb_eq (tgt := 123) hx hb dX0_tell_105 (by decide) (fun h9 => absurd h9 (by decide)) (fun _ => ?_)
        refine lv_aload_n hx hb dX0_tell_108 rfl (lv_at hl 3 rfl) ?_
        refine z_get (ci := 1) (v := .ref gr) (C := RX0) (T := TX0) (N := 7) hx hb hts in1 hown hK hpa rfl 2 (by decide) fl18 (fun _ h9 => h9) rfl dX0_tell_109 ?_
        refine lv_iload_n hx hb dX0_tell_112 rfl (lv_at hl 2 rfl) ?_
        refine lv_iload hx hb dX0_tell_113 (lv_at hl 1 rfl) ?_
        refine lv_iload_n hx hb dX0_tell_115 rfl (lv_at hl 2 rfl) ?_
        refine lv_isub hx hb dX0_tell_116 ?_
        refine zti (pk_sub (by omega)) (y := nI ((endN o n0 i) - ((posN o n0) i))) ?_
        refine z_csV (As := [.int (nI ((posN o n0) i)), .int (nI ((endN o n0 i) - ((posN o n0) i)))]) (rest := []) ⟨hx, hb, hml, hown, hts⟩ (c_X1_sumOf l D cs gr ga n0 v hv (posN o n0 i) (endN o n0 i - posN o n0 i) (by omega) (by omega) (by omega)) (cwV 2 hts gX0_tell_X1_sumOf rfl rfl rfl (by decide +kernel) ⟨Nat.le_of_ble_eq_true rfl, Nat.le_of_ble_eq_true rfl⟩) hgr rfl ⟨hgr, hga⟩ hK rfl hl.1 rfl (Nat.le_of_ble_eq_true rfl) dX0_tell_117 ⟨Nat.zero_le _, Nat.zero_le _⟩ (fun r hq9 => ?_)
        have hq9 : r = nI (wsum v (posN o n0 i) (endN o n0 i - posN o n0 i)) := hq9
        subst hq9
        refine lv_goto (tgt := 124) hx hb dX0_tell_120 (by decide) ?_
        exact W.iret (v := nI (wsum v (posN o n0 i) (endN o n0 i - posN o n0 i))) hx hb hr (fun t ht hW => ⟨_, rfl, (tell_3l hc43).symm, ht⟩) (fun q hq => absurd hq List.not_mem_nil) dX0_tell_124
  · skip
    have hc15 : i + 1 < (manyN o n0) := hc15
    refine lv_aload_n hx hb dX0_tell_18 rfl (lv_at hl 1 rfl) ?_
    refine z_get (ci := 1) (v := .ref sa) (C := RX0) (T := TX0) (N := 7) hx hb hts in1 hown hK hpa rfl 4 (by decide) fl30 (fun _ h9 => h9) rfl dX0_tell_19 ?_
    refine lv_iload_n hx hb dX0_tell_22 rfl (lv_at hl 2 rfl) ?_
    refine lv_iconst (v := nI 1) hx hb dX0_tell_23 (by decide) ?_
    refine lv_iadd hx hb dX0_tell_24 ?_
    refine zti (nI_add _ _) (y := nI (i + 1)) ?_
    refine z_iald (k := (i + 1)) (f := fun i => nI ((posN o n0) i)) hx hb hK hsa (by omega) (by omega) dX0_tell_25 ?_
    refine zti (y := nI ((posN o n0) (i + 1))) rfl ?_
    refine lv_goto (tgt := 34) hx hb dX0_tell_26 (by decide) ?_
    have hen : endN o n0 i = posN o n0 (i + 1) := if_pos (show i + 1 < manyN o n0 by omega)
    refine zti (y := nI (endN o n0 i)) (congrArg nI hen.symm) ?_
    refine lv_istore (lv' := [(4, .int (nI (endN o n0 i))), (3, .int (nI ((posN o n0) i))), (0, .ref pa), (1, .int (nI i)), (2, .int (nI w))]) hx hb dX0_tell_34 hl (by decide) rfl (fun ls hl => ?_)
    refine lv_aload_n hx hb dX0_tell_36 rfl (lv_at hl 2 rfl) ?_
    refine z_get (ci := 1) (v := .ref oa) (C := RX0) (T := TX0) (N := 7) hx hb hts in1 hown hK hpa rfl 3 (by decide) fl22 (fun _ h9 => h9) rfl dX0_tell_37 ?_
    refine lv_iload_n hx hb dX0_tell_40 rfl (lv_at hl 1 rfl) ?_
    refine z_iald (k := ((posN o n0) i)) (f := o) hx hb hK hoa (by omega) (by omega) dX0_tell_41 ?_
    refine lv_iconst (v := (-1 : Int32)) hx hb dX0_tell_42 (by decide) ?_
    refine lv_icmp_ne (tgt := 50) hx hb dX0_tell_43 (by decide) (fun hc43 => ?_) (fun hc43 => ?_)
    · skip
      have hc43 : ¬ (o ((posN o n0) i)) = (-1 : Int32) := hc43
      refine lv_iconst (v := nI 0) hx hb dX0_tell_50 (by decide) ?_
      refine zti (y := bI false) rfl ?_
      refine lv_istore (lv' := [(5, .int (bI false)), (4, .int (nI (endN o n0 i))), (3, .int (nI ((posN o n0) i))), (0, .ref pa), (1, .int (nI i)), (2, .int (nI w))]) hx hb dX0_tell_51 hl (by decide) rfl (fun ls hl => ?_)
      refine lv_iload_n hx hb dX0_tell_53 rfl (lv_at hl 5 rfl) ?_
      rcases z_w4 hw with hw9 | hw9 | hw9 | hw9
      · skip
        subst hw9
        refine lv_tableIn (tgt := 80) hx hb dX0_tell_54 (by decide) (by decide) rfl (by decide) ?_
        refine lv_iload hx hb dX0_tell_80 (lv_at hl 0 rfl) ?_
        refine z_ifb_eq (tgt := 89) hx hb dX0_tell_82 (by decide) (fun _ => ?_) (fun h9 => absurd h9 (by decide))
        refine lv_iconst (v := nI 0) hx hb dX0_tell_89 (by decide) ?_
        exact W.iret (v := nI 0) hx hb hr (fun t ht hW => ⟨_, rfl, (by rw [tell_0, ltA_f hc43]; rfl), ht⟩) (fun q hq => absurd hq List.not_mem_nil) dX0_tell_90
      · skip
        subst hw9
        refine lv_tableIn (tgt := 91) hx hb dX0_tell_54 (by decide) (by decide) rfl (by decide) ?_
        refine lv_aload_n hx hb dX0_tell_91 rfl (lv_at hl 3 rfl) ?_
        refine z_get (ci := 1) (v := .ref oa) (C := RX0) (T := TX0) (N := 7) hx hb hts in1 hown hK hpa rfl 3 (by decide) fl22 (fun _ h9 => h9) rfl dX0_tell_92 ?_
        refine lv_iload_n hx hb dX0_tell_95 rfl (lv_at hl 2 rfl) ?_
        refine z_iald (k := ((posN o n0) i)) (f := o) hx hb hK hoa (by omega) (by omega) dX0_tell_96 ?_
        exact W.iret (v := o ((posN o n0) i)) hx hb hr (fun t ht hW => ⟨_, rfl, tell_1.symm, ht⟩) (fun q hq => absurd hq List.not_mem_nil) dX0_tell_97
      · skip
        subst hw9
        refine lv_tableIn (tgt := 98) hx hb dX0_tell_54 (by decide) (by decide) rfl (by decide) ?_
        refine lv_iload hx hb dX0_tell_98 (lv_at hl 1 rfl) ?_
        refine lv_iload_n hx hb dX0_tell_100 rfl (lv_at hl 2 rfl) ?_
        refine lv_isub hx hb dX0_tell_101 ?_
        refine zti (pk_sub (by omega)) (y := nI ((endN o n0 i) - ((posN o n0) i))) ?_
        exact W.iret (v := nI ((endN o n0 i) - ((posN o n0) i))) hx hb hr (fun t ht hW => ⟨_, rfl, tell_2.symm, ht⟩) (fun q hq => absurd hq List.not_mem_nil) dX0_tell_102
      · skip
        subst hw9
        refine lv_tableOut (tgt := 103) hx hb dX0_tell_54 (by decide) (by decide) ?_
        refine lv_iload hx hb dX0_tell_103 (lv_at hl 0 rfl) ?_
        refine z_ifb_eq (tgt := 123) hx hb dX0_tell_105 (by decide) (fun _ => ?_) (fun h9 => absurd h9 (by decide))
        refine lv_iconst (v := (-1 : Int32)) hx hb dX0_tell_123 (by decide) ?_
        exact W.iret (v := (-1 : Int32)) hx hb hr (fun t ht hW => ⟨_, rfl, (tell_3c hc43).symm, ht⟩) (fun q hq => absurd hq List.not_mem_nil) dX0_tell_124
    · skip
      have hc43 : (o ((posN o n0) i)) = (-1 : Int32) := hc43
      refine lv_iconst (v := nI 1) hx hb dX0_tell_46 (by decide) ?_
      refine lv_goto (tgt := 51) hx hb dX0_tell_47 (by decide) ?_
      refine zti (y := bI true) rfl ?_
      refine lv_istore (lv' := [(5, .int (bI true)), (4, .int (nI (endN o n0 i))), (3, .int (nI ((posN o n0) i))), (0, .ref pa), (1, .int (nI i)), (2, .int (nI w))]) hx hb dX0_tell_51 hl (by decide) rfl (fun ls hl => ?_)
      refine lv_iload_n hx hb dX0_tell_53 rfl (lv_at hl 5 rfl) ?_
      rcases z_w4 hw with hw9 | hw9 | hw9 | hw9
      · skip
        subst hw9
        refine lv_tableIn (tgt := 80) hx hb dX0_tell_54 (by decide) (by decide) rfl (by decide) ?_
        refine lv_iload hx hb dX0_tell_80 (lv_at hl 0 rfl) ?_
        refine z_ifb_eq (tgt := 89) hx hb dX0_tell_82 (by decide) (fun h9 => absurd h9 (by decide)) (fun _ => ?_)
        refine lv_iconst (v := nI 1) hx hb dX0_tell_85 (by decide) ?_
        refine lv_goto (tgt := 90) hx hb dX0_tell_86 (by decide) ?_
        exact W.iret (v := nI 1) hx hb hr (fun t ht hW => ⟨_, rfl, (by rw [tell_0, ltA_t hc43]; rfl), ht⟩) (fun q hq => absurd hq List.not_mem_nil) dX0_tell_90
      · skip
        subst hw9
        refine lv_tableIn (tgt := 91) hx hb dX0_tell_54 (by decide) (by decide) rfl (by decide) ?_
        refine lv_aload_n hx hb dX0_tell_91 rfl (lv_at hl 3 rfl) ?_
        refine z_get (ci := 1) (v := .ref oa) (C := RX0) (T := TX0) (N := 7) hx hb hts in1 hown hK hpa rfl 3 (by decide) fl22 (fun _ h9 => h9) rfl dX0_tell_92 ?_
        refine lv_iload_n hx hb dX0_tell_95 rfl (lv_at hl 2 rfl) ?_
        refine z_iald (k := ((posN o n0) i)) (f := o) hx hb hK hoa (by omega) (by omega) dX0_tell_96 ?_
        exact W.iret (v := o ((posN o n0) i)) hx hb hr (fun t ht hW => ⟨_, rfl, tell_1.symm, ht⟩) (fun q hq => absurd hq List.not_mem_nil) dX0_tell_97
      · skip
        subst hw9
        refine lv_tableIn (tgt := 98) hx hb dX0_tell_54 (by decide) (by decide) rfl (by decide) ?_
        refine lv_iload hx hb dX0_tell_98 (lv_at hl 1 rfl) ?_
        refine lv_iload_n hx hb dX0_tell_100 rfl (lv_at hl 2 rfl) ?_
        refine lv_isub hx hb dX0_tell_101 ?_
        refine zti (pk_sub (by omega)) (y := nI ((endN o n0 i) - ((posN o n0) i))) ?_
        exact W.iret (v := nI ((endN o n0 i) - ((posN o n0) i))) hx hb hr (fun t ht hW => ⟨_, rfl, tell_2.symm, ht⟩) (fun q hq => absurd hq List.not_mem_nil) dX0_tell_102
      · skip
        subst hw9
        refine lv_tableOut (tgt := 103) hx hb dX0_tell_54 (by decide) (by decide) ?_
        refine lv_iload hx hb dX0_tell_103 (lv_at hl 0 rfl) ?_
        refine z_ifb_eq (tgt := 123) hx hb dX0_tell_105 (by decide) (fun h9 => absurd h9 (by decide)) (fun _ => ?_)
        refine lv_aload_n hx hb dX0_tell_108 rfl (lv_at hl 3 rfl) ?_
        refine z_get (ci := 1) (v := .ref gr) (C := RX0) (T := TX0) (N := 7) hx hb hts in1 hown hK hpa rfl 2 (by decide) fl18 (fun _ h9 => h9) rfl dX0_tell_109 ?_
        refine lv_iload_n hx hb dX0_tell_112 rfl (lv_at hl 2 rfl) ?_
        refine lv_iload hx hb dX0_tell_113 (lv_at hl 1 rfl) ?_
        refine lv_iload_n hx hb dX0_tell_115 rfl (lv_at hl 2 rfl) ?_
        refine lv_isub hx hb dX0_tell_116 ?_
        refine zti (pk_sub (by omega)) (y := nI ((endN o n0 i) - ((posN o n0) i))) ?_
        refine z_csV (As := [.int (nI ((posN o n0) i)), .int (nI ((endN o n0 i) - ((posN o n0) i)))]) (rest := []) ⟨hx, hb, hml, hown, hts⟩ (c_X1_sumOf l D cs gr ga n0 v hv (posN o n0 i) (endN o n0 i - posN o n0 i) (by omega) (by omega) (by omega)) (cwV 2 hts gX0_tell_X1_sumOf rfl rfl rfl (by decide +kernel) ⟨Nat.le_of_ble_eq_true rfl, Nat.le_of_ble_eq_true rfl⟩) hgr rfl ⟨hgr, hga⟩ hK rfl hl.1 rfl (Nat.le_of_ble_eq_true rfl) dX0_tell_117 ⟨Nat.zero_le _, Nat.zero_le _⟩ (fun r hq9 => ?_)
        have hq9 : r = nI (wsum v (posN o n0 i) (endN o n0 i - posN o n0 i)) := hq9
        subst hq9
        refine lv_goto (tgt := 124) hx hb dX0_tell_120 (by decide) ?_
        exact W.iret (v := nI (wsum v (posN o n0 i) (endN o n0 i - posN o n0 i))) hx hb hr (fun t ht hW => ⟨_, rfl, (tell_3l hc43).symm, ht⟩) (fun q hq => absurd hq List.not_mem_nil) dX0_tell_124

