/-! what an instruction tells: both sides -/
theorem z_w4 {w : Nat} (h : w < 4) : w = 0 ∨ w = 1 ∨ w = 2 ∨ w = 3 := by omega
theorem pos_ok {o : Nat → Int32} {n i : Nat} (h : i < manyN o n) : posN o n i < n ∧ stA o (posN o n i) = true ∧ ct (stA o) (posN o n i) = i := kth_ok h
theorem pos_uq {o : Nat → Int32} {n b : Nat} (hb : b < n) (h : stA o b = true) : posN o n (ct (stA o) b) = b := kth_uq hb h
/-- no start between j and the next one -/
theorem pos_ge {o : Nat → Int32} {n j t : Nat} (ht : t < manyN o n) (hc : ct (stA o) j = t) : j ≤ posN o n t := by
  obtain ⟨h1, h2, h3⟩ := pos_ok ht
  rcases Nat.lt_or_ge (posN o n t) j with q | q
  · have := ct_lt q h2; omega
  · exact q
theorem end_last {o : Nat → Int32} {n i : Nat} (h : ct (stA o) n = i + 1) : endN o n i = n := by
  unfold endN; rw [if_neg]; unfold manyN; omega
theorem end_next {o : Nat → Int32} {n i e : Nat} (he : e < n) (h1 : stA o e = true) (h2 : ct (stA o) e = i + 1) : endN o n i = e := by
  have h3 := ct_lt he h1
  have h4 := pos_uq he h1
  unfold endN
  rw [if_pos (by unfold manyN; omega), ← h2, h4]
theorem end_le {o : Nat → Int32} {n i : Nat} : endN o n i ≤ n := by
  unfold endN
  split
  · rename_i h
    exact Nat.le_of_lt (pos_ok h).1
  · exact Nat.le_refl n
theorem pos_end {o : Nat → Int32} {n i : Nat} (h : i < manyN o n) : posN o n i < endN o n i := by
  obtain ⟨h1, h2, h3⟩ := pos_ok h
  unfold endN
  split
  · rename_i h4
    obtain ⟨g1, g2, g3⟩ := pos_ok h4
    rcases Nat.lt_trichotomy (posN o n i) (posN o n (i + 1)) with q | q | q
    · exact q
    · rw [← q, h3] at g3; omega
    · have := ct_lt q g2; omega
  · exact h1
theorem tell_0 {o : Nat → Int32} {v : Nat → Nat} {n i : Nat} : tellI o v n i 0 = bI (ltA o (posN o n i)) := rfl
theorem tell_1 {o : Nat → Int32} {v : Nat → Nat} {n i : Nat} : tellI o v n i 1 = o (posN o n i) := rfl
theorem tell_2 {o : Nat → Int32} {v : Nat → Nat} {n i : Nat} : tellI o v n i 2 = nI (endN o n i - posN o n i) := rfl
theorem tell_3l {o : Nat → Int32} {v : Nat → Nat} {n i : Nat} (h : o (posN o n i) = (-1)) : tellI o v n i 3 = nI (wsum v (posN o n i) (endN o n i - posN o n i)) := if_pos h
theorem tell_3c {o : Nat → Int32} {v : Nat → Nat} {n i : Nat} (h : ¬ o (posN o n i) = (-1)) : tellI o v n i 3 = (-1) := if_neg h
theorem ltA_t {o : Nat → Int32} {k : Nat} (h : o k = (-1)) : ltA o k = true := decide_eq_true h
theorem ltA_f {o : Nat → Int32} {k : Nat} (h : ¬ o k = (-1)) : ltA o k = false := decide_eq_false h

set_option maxHeartbeats 4000000 in
set_option maxRecDepth 100000 in
theorem c_X3_told (l : Launch) (D : va_G) (cs : Nat → ClassId) (m9 go gg np : Nat) (fs : List Value) (fo fg : Nat → Option Nat) (hfo : fs[8]? = some (.ref go)) (hfg : fs[7]? = some (.ref gg)) (p9 : Nat) (hp : p9 < np) (hnp : np ≤ 12) (b0 g0 n0 : Nat) (ho : fo p9 = some b0) (hg9 : fg p9 = some g0) (o : Nat → Int32) (v : Nat → Nat) (hv : ∀ i, v i < 256) (i : Nat) (hi : i < manyN o n0) (w : Nat) (hw : w < 4) (hn0 : n0 ≤ 400) : Met l yX3_told wsX3_told ({ frames := 1, cells := 0, slots := 0, locals := 25 }) (zP [.ref m9, .int (nI p9), .int (nI i), .int (nI w)] (fun H => At D m9 (.inr (4, fs)) H ∧ At D go (qa cs 2 12 fo) H ∧ At D b0 (fa cs n0 o) H ∧ At D gg (qa cs 2 12 fg) H ∧ At D g0 (fa cs n0 (fun i => nI (v i))) H) D cs) (vp_Si (fun r => r = tellI o v n0 i w)) 0 0 (fun _ => False) := by
  refine Met.ofW (cc := cX3_told) (maxL := 7) (ret := (some .int)) (by decide) rfl ?_
  intro p e s m args below meth c s₁ B hml hv
  obtain ⟨rfl, hPH, hK⟩ := hv
  have hx := B.exec
  have hb := B.bytes
  have hr := B.returns
  have hts := atoms_spec (ws := wsX3_told) B.pre
  have hown : s.vm.findClass RX3 = some m.cls := findClass_of_methodNamed B.named
  have hlocks := B.notSynchronized
  have fl21 := hts (.fieldLink RX3 21 "DeltaUpdaterModel" "goals" "[[I") (by decide +kernel)
  have fl24 := hts (.fieldLink RX3 24 "DeltaUpdaterModel" "origins" "[[I") (by decide +kernel)
  have in4 : ∀ w ∈ u_ws RX3 TX3 12, w ∈ wsX3_told := by decide +kernel
  have hPH : At D m9 (.inr (4, fs)) s.heap ∧ At D go (qa cs 2 12 fo) s.heap ∧ At D b0 (fa cs n0 o) s.heap ∧ At D gg (qa cs 2 12 fg) s.heap ∧ At D g0 (fa cs n0 (fun i => nI (v i))) s.heap := hPH
  obtain ⟨hm9, hgo, ha0, hgg, ha1⟩ := hPH
  have hl := lv_entry ([.ref m9, .int (nI p9), .int (nI i), .int (nI w)]) (n := 7) (Nat.le_of_ble_eq_true rfl)
  rw [lg_entry_eq]
  generalize (lg_sl ([.ref m9, .int (nI p9), .int (nI i), .int (nI w)]) ++ List.replicate (7 - (lg_sl ([.ref m9, .int (nI p9), .int (nI i), .int (nI w)])).length) Slot.unset).toArray = ls at hl ⊢
  have hl : lv_has ls 7 [(0, .ref m9), (1, .int (nI p9)), (2, .int (nI i)), (3, .int (nI w))] := hl
  have hmn : manyN o n0 ≤ n0 := ct_le (stA o) n0
  refine lv_iconst (v := (-1 : Int32)) hx hb dX3_told_0 (by decide) ?_
  refine zti (y := nI 0 - nI 1) (by decide) ?_
  refine lv_istore (lv' := [(4, .int (nI 0 - nI 1)), (0, .ref m9), (1, .int (nI p9)), (2, .int (nI i)), (3, .int (nI w))]) hx hb dX3_told_1 hl (by decide) rfl (fun ls hl => ?_)
  refine lv_iload_n hx hb dX3_told_3 rfl (lv_at hl 3 rfl) ?_
  refine zti (y := nI i - nI 0) (by rw [nI_0, Int32.sub_zero]) ?_
  refine lv_istore (lv' := [(5, .int (nI i - nI 0)), (4, .int (nI 0 - nI 1)), (0, .ref m9), (1, .int (nI p9)), (2, .int (nI i)), (3, .int (nI w))]) hx hb dX3_told_4 hl (by decide) rfl (fun ls hl => ?_)
  refine z_loop (σ := Nat × Nat) (fun q9 => i + 1 - q9.1) (fun q9 ls => lv_has ls 7 [(5, .int (nI i - nI q9.1)), (4, .int (nI q9.2 - nI 1)), (0, .ref m9), (1, .int (nI p9)), (2, .int (nI i)), (3, .int (nI w))] ∧ (q9.1 ≤ i + 1) ∧ ((q9.2 = 0 ∧ q9.1 = 0) ∨ (0 < q9.2 ∧ q9.2 ≤ n0 ∧ stA o (q9.2 - 1) = true ∧ ct (stA o) (q9.2 - 1) + 1 = q9.1)) ∧ (ct (stA o) q9.2 = q9.1)) (0, 0) ⟨lv_sub hl [0, 1, 2, 3, 4, 5] rfl, (show 0 ≤ i + 1 from by omega), (show (0 = 0 ∧ 0 = 0) ∨ (0 < 0 ∧ 0 ≤ n0 ∧ stA o (0 - 1) = true ∧ ct (stA o) (0 - 1) + 1 = 0) from Or.inl ⟨rfl, rfl⟩), (show ct (stA o) 0 = 0 from rfl)⟩ (fun dd6 ih6 y9 ls hd9 hI9 => ?_)
  obtain ⟨t, F⟩ := y9
  have hd6 : i + 1 - t = dd6 := hd9
  have hI9 : lv_has ls 7 [(5, .int (nI i - nI t)), (4, .int (nI F - nI 1)), (0, .ref m9), (1, .int (nI p9)), (2, .int (nI i)), (3, .int (nI w))] ∧ (t ≤ i + 1) ∧ ((F = 0 ∧ t = 0) ∨ (0 < F ∧ F ≤ n0 ∧ stA o (F - 1) = true ∧ ct (stA o) (F - 1) + 1 = t)) ∧ (ct (stA o) F = t) := hI9
  obtain ⟨hl, ht, hF, hct⟩ := hI9
  refine lv_iload hx hb dX3_told_6 (lv_at hl 0 rfl) ?_
  refine lv_if_lt (tgt := 36) hx hb dX3_told_8 (by decide) (fun hc8 => ?_) (fun hc8 => ?_)
  · skip
    have hc8 : (nI i - nI t) < 0 := hc8
    have hlt : i < t := (z_lft (by omega) (by omega)).mp hc8
    have hF3 : 0 < F ∧ F ≤ n0 ∧ stA o (F - 1) = true ∧ ct (stA o) (F - 1) + 1 = t := by rcases hF with q | q; (exfalso; omega); exact q
    obtain ⟨hF4, hF5, hF6, hF7⟩ := hF3
    obtain ⟨b9, hb9⟩ : ∃ z, z = F - 1 := ⟨_, rfl⟩
    rw [z_bk1 hF4, ← hb9] at hl
    rw [← hb9] at hF6 hF7
    have hl := lv_sub hl (l' := [(4, .int (nI b9)), (0, .ref m9), (1, .int (nI p9)), (2, .int (nI i)), (3, .int (nI w))]) [1, 2, 3, 4, 5] rfl
    have hps : posN o n0 i = b9 := by have h9 := pos_uq (n := n0) (by omega) hF6; rwa [show ct (stA o) b9 = i by omega] at h9
    have hcb : ct (stA o) (b9 + 1) = i + 1 := by rw [ct_t hF6]; omega
    refine lv_iload hx hb dX3_told_36 (lv_at hl 0 rfl) ?_
    refine lv_iconst (v := nI 1) hx hb dX3_told_38 (by decide) ?_
    refine lv_iadd hx hb dX3_told_39 ?_
    refine zti (nI_add _ _) (y := nI (b9 + 1)) ?_
    refine lv_istore (lv' := [(5, .int (nI (b9 + 1))), (4, .int (nI b9)), (0, .ref m9), (1, .int (nI p9)), (2, .int (nI i)), (3, .int (nI w))]) hx hb dX3_told_40 hl (by decide) rfl (fun ls hl => ?_)
    refine z_loop (σ := Nat) (fun q9 => n0 - q9) (fun q9 ls => lv_has ls 7 [(5, .int (nI q9)), (4, .int (nI b9)), (0, .ref m9), (1, .int (nI p9)), (2, .int (nI i)), (3, .int (nI w))] ∧ (b9 < q9) ∧ (q9 ≤ n0) ∧ (ct (stA o) q9 = i + 1)) (b9 + 1) ⟨lv_sub hl [0, 1, 2, 3, 4, 5] rfl, (show b9 < (b9 + 1) from by omega), (show (b9 + 1) ≤ n0 from by omega), (show ct (stA o) (b9 + 1) = i + 1 from hcb)⟩ (fun dd42 ih42 y9 ls hd9 hI9 => ?_)
    obtain ⟨e9, rfl⟩ : ∃ z, z = y9 := ⟨_, rfl⟩
    have hd42 : n0 - e9 = dd42 := hd9
    have hI9 : lv_has ls 7 [(5, .int (nI e9)), (4, .int (nI b9)), (0, .ref m9), (1, .int (nI p9)), (2, .int (nI i)), (3, .int (nI w))] ∧ (b9 < e9) ∧ (e9 ≤ n0) ∧ (ct (stA o) e9 = i + 1) := hI9
    obtain ⟨hl, he0, he1, hec⟩ := hI9
    refine lv_iload hx hb dX3_told_42 (lv_at hl 0 rfl) ?_
    refine lv_aload_n hx hb dX3_told_44 rfl (lv_at hl 2 rfl) ?_
    refine z_get (ci := 4) (v := .ref go) (C := RX3) (T := TX3) (N := 12) hx hb hts in4 hown hK hm9 rfl 8 (by decide) fl24 (fun _ h9 => h9) hfo dX3_told_45 ?_
    refine lv_iload_n hx hb dX3_told_48 rfl (lv_at hl 3 rfl) ?_
    refine z_aald (k := p9) (y := b0) (t0 := 2) hx hb hK hgo rfl rfl (by omega) (by omega) ho dX3_told_49 ?_
    refine z_alen (n := n0) hx hb hK ha0 dX3_told_50 ?_
    refine z_icmp_ge (tgt := 70) hx hb (by omega) (by omega) dX3_told_51 (by decide) (fun hc51 => ?_) (fun hc51 => ?_)
    · skip
      have hc51 : n0 ≤ e9 := hc51
      have hen : endN o n0 i = e9 := by rw [end_last (by rw [← hec, show e9 = n0 by omega])]; omega
      refine lv_aload_n hx hb dX3_told_70 rfl (lv_at hl 2 rfl) ?_
      refine z_get (ci := 4) (v := .ref go) (C := RX3) (T := TX3) (N := 12) hx hb hts in4 hown hK hm9 rfl 8 (by decide) fl24 (fun _ h9 => h9) hfo dX3_told_71 ?_
      refine lv_iload_n hx hb dX3_told_74 rfl (lv_at hl 3 rfl) ?_
      refine z_aald (k := p9) (y := b0) (t0 := 2) hx hb hK hgo rfl rfl (by omega) (by omega) ho dX3_told_75 ?_
      refine lv_iload hx hb dX3_told_76 (lv_at hl 1 rfl) ?_
      refine z_iald (k := b9) (f := o) hx hb hK ha0 (by omega) (by omega) dX3_told_78 ?_
      refine lv_istore (lv' := [(6, .int (o b9)), (5, .int (nI e9)), (4, .int (nI b9)), (0, .ref m9), (1, .int (nI p9)), (2, .int (nI i)), (3, .int (nI w))]) hx hb dX3_told_79 hl (by decide) rfl (fun ls hl => ?_)
      refine lv_iload_n hx hb dX3_told_81 rfl (lv_at hl 6 rfl) ?_
      refine z_ifn_ne (tgt := 97) hx hb (by omega) dX3_told_82 (by decide) (fun hc82 => ?_) (fun hc82 => ?_)
      · skip
        have hc82 : ¬ w = 0 := hc82
        refine lv_iload_n hx hb dX3_told_97 rfl (lv_at hl 6 rfl) ?_
        refine lv_iconst (v := nI 1) hx hb dX3_told_98 (by decide) ?_
        refine z_icmp_ne (tgt := 105) hx hb (by omega) (by omega) dX3_told_99 (by decide) (fun hc99 => ?_) (fun hc99 => ?_)
        · skip
          have hc99 : ¬ w = 1 := hc99
          refine lv_iload_n hx hb dX3_told_105 rfl (lv_at hl 6 rfl) ?_
          refine lv_iconst (v := nI 2) hx hb dX3_told_106 (by decide) ?_
          refine z_icmp_ne (tgt := 118) hx hb (by omega) (by omega) dX3_told_107 (by decide) (fun hc107 => ?_) (fun hc107 => ?_)
          · skip
            have hc107 : ¬ w = 2 := hc107
            refine lv_iload hx hb dX3_told_118 (lv_at hl 0 rfl) ?_
            refine lv_iconst (v := (-1 : Int32)) hx hb dX3_told_120 (by decide) ?_
            refine lv_icmp_ne (tgt := 143) hx hb dX3_told_121 (by decide) (fun hc121 => ?_) (fun hc121 => ?_)
            · skip
              have hc121 : ¬ (o b9) = (-1 : Int32) := hc121
              refine lv_iconst (v := (-1 : Int32)) hx hb dX3_told_143 (by decide) ?_
              exact W.iret (v := (-1 : Int32)) hx hb hr (fun t ht hW => ⟨_, rfl, (by rw [show w = 3 by omega, tell_3c (by rw [hps]; exact hc121)]), ht⟩) (fun q hq => absurd hq List.not_mem_nil) dX3_told_144
            · skip
              have hc121 : (o b9) = (-1 : Int32) := hc121
              refine lv_aload_n hx hb dX3_told_124 rfl (lv_at hl 3 rfl) ?_
              refine z_get (ci := 4) (v := .ref gg) (C := RX3) (T := TX3) (N := 12) hx hb hts in4 hown hK hm9 rfl 7 (by decide) fl21 (fun _ h9 => h9) hfg dX3_told_125 ?_
              refine lv_iload_n hx hb dX3_told_128 rfl (lv_at hl 4 rfl) ?_
              refine z_aald (k := p9) (y := g0) (t0 := 2) hx hb hK hgg rfl rfl (by omega) (by omega) hg9 dX3_told_129 ?_
              refine lv_iload hx hb dX3_told_130 (lv_at hl 2 rfl) ?_
              refine lv_iload hx hb dX3_told_132 (lv_at hl 1 rfl) ?_
              refine lv_iload hx hb dX3_told_134 (lv_at hl 2 rfl) ?_
              refine lv_isub hx hb dX3_told_136 ?_
              refine zti (pk_sub (by omega)) (y := nI (e9 - b9)) ?_
              refine z_csS (As := [.ref g0, .int (nI b9), .int (nI (e9 - b9))]) (rest := []) ⟨hx, hb, hml, hown, hts⟩ (c_X3_sumOf l D cs g0 n0 v hv b9 (e9 - b9) (by omega) (by omega) (by omega)) (va_cwS 3 hts gX3_told_X3_sumOf rfl rfl rfl (by decide +kernel) ⟨Nat.le_of_ble_eq_true rfl, Nat.le_of_ble_eq_true rfl⟩) ha1 hK rfl hl.1 rfl (Nat.le_of_ble_eq_true rfl) dX3_told_137 ⟨Nat.zero_le _, Nat.zero_le _⟩ (fun r hq9 => ?_)
              have hq9 : r = nI (wsum v b9 (e9 - b9)) := hq9
              subst hq9
              refine lv_goto (tgt := 144) hx hb dX3_told_140 (by decide) ?_
              exact W.iret (v := nI (wsum v b9 (e9 - b9))) hx hb hr (fun t ht hW => ⟨_, rfl, (by rw [show w = 3 by omega, tell_3l (by rw [hps]; exact hc121), hps, hen]), ht⟩) (fun q hq => absurd hq List.not_mem_nil) dX3_told_144
          · skip
            have hc107 : w = 2 := hc107
            refine lv_iload hx hb dX3_told_110 (lv_at hl 1 rfl) ?_
            refine lv_iload hx hb dX3_told_112 (lv_at hl 2 rfl) ?_
            refine lv_isub hx hb dX3_told_114 ?_
            refine zti (pk_sub (by omega)) (y := nI (e9 - b9)) ?_
            refine lv_goto (tgt := 144) hx hb dX3_told_115 (by decide) ?_
            exact W.iret (v := nI (e9 - b9)) hx hb hr (fun t ht hW => ⟨_, rfl, (by rw [hc107, tell_2, hps, hen]), ht⟩) (fun q hq => absurd hq List.not_mem_nil) dX3_told_144
        · skip
          have hc99 : w = 1 := hc99
          refine lv_iload hx hb dX3_told_102 (lv_at hl 0 rfl) ?_
          exact W.iret (v := o b9) hx hb hr (fun t ht hW => ⟨_, rfl, (by rw [hc99, tell_1, hps]), ht⟩) (fun q hq => absurd hq List.not_mem_nil) dX3_told_104
      · skip
        have hc82 : w = 0 := hc82
        refine lv_iload hx hb dX3_told_85 (lv_at hl 0 rfl) ?_
        refine lv_iconst (v := (-1 : Int32)) hx hb dX3_told_87 (by decide) ?_
        refine lv_icmp_ne (tgt := 95) hx hb dX3_told_88 (by decide) (fun hc88 => ?_) (fun hc88 => ?_)
        · skip
          have hc88 : ¬ (o b9) = (-1 : Int32) := hc88
          refine lv_iconst (v := nI 0) hx hb dX3_told_95 (by decide) ?_
          exact W.iret (v := nI 0) hx hb hr (fun t ht hW => ⟨_, rfl, (by rw [hc82, tell_0, hps, ltA_f hc88]; rfl), ht⟩) (fun q hq => absurd hq List.not_mem_nil) dX3_told_96
        · skip
          have hc88 : (o b9) = (-1 : Int32) := hc88
          refine lv_iconst (v := nI 1) hx hb dX3_told_91 (by decide) ?_
          refine lv_goto (tgt := 96) hx hb dX3_told_92 (by decide) ?_
          exact W.iret (v := nI 1) hx hb hr (fun t ht hW => ⟨_, rfl, (by rw [hc82, tell_0, hps, ltA_t hc88]; rfl), ht⟩) (fun q hq => absurd hq List.not_mem_nil) dX3_told_96
    · skip
      have hc51 : e9 < n0 := hc51
      refine lv_aload_n hx hb dX3_told_54 rfl (lv_at hl 2 rfl) ?_
      refine lv_iload_n hx hb dX3_told_55 rfl (lv_at hl 3 rfl) ?_
      refine lv_iload hx hb dX3_told_56 (lv_at hl 0 rfl) ?_
      refine z_csV (As := [.int (nI p9), .int (nI e9)]) (rest := []) ⟨hx, hb, hml, hown, hts⟩ (c_X3_begins l D cs m9 go np fs fo hfo p9 hp hnp b0 n0 ho o e9 (by omega) (by omega)) (cwV 2 hts gX3_told_X3_begins rfl rfl rfl (by decide +kernel) ⟨Nat.le_of_ble_eq_true rfl, Nat.le_of_ble_eq_true rfl⟩) hm9 rfl ⟨hm9, hgo, ha0⟩ hK rfl hl.1 rfl (Nat.le_of_ble_eq_true rfl) dX3_told_58 ⟨Nat.zero_le _, Nat.zero_le _⟩ (fun r hq9 => ?_)
      have hq9 : r = bI (stA o e9) := hq9
      subst hq9
      refine z_ifb_ne (tgt := 70) hx hb dX3_told_61 (by decide) (fun hc61 => ?_) (fun hc61 => ?_)
      · skip
        have hc61 : (stA o e9) = true := hc61
        have hen : endN o n0 i = e9 := end_next (by omega) hc61 hec
        refine lv_aload_n hx hb dX3_told_70 rfl (lv_at hl 2 rfl) ?_
        refine z_get (ci := 4) (v := .ref go) (C := RX3) (T := TX3) (N := 12) hx hb hts in4 hown hK hm9 rfl 8 (by decide) fl24 (fun _ h9 => h9) hfo dX3_told_71 ?_
        refine lv_iload_n hx hb dX3_told_74 rfl (lv_at hl 3 rfl) ?_
        refine z_aald (k := p9) (y := b0) (t0 := 2) hx hb hK hgo rfl rfl (by omega) (by omega) ho dX3_told_75 ?_
        refine lv_iload hx hb dX3_told_76 (lv_at hl 1 rfl) ?_
        refine z_iald (k := b9) (f := o) hx hb hK ha0 (by omega) (by omega) dX3_told_78 ?_
        refine lv_istore (lv' := [(6, .int (o b9)), (5, .int (nI e9)), (4, .int (nI b9)), (0, .ref m9), (1, .int (nI p9)), (2, .int (nI i)), (3, .int (nI w))]) hx hb dX3_told_79 hl (by decide) rfl (fun ls hl => ?_)
        refine lv_iload_n hx hb dX3_told_81 rfl (lv_at hl 6 rfl) ?_
        refine z_ifn_ne (tgt := 97) hx hb (by omega) dX3_told_82 (by decide) (fun hc82 => ?_) (fun hc82 => ?_)
        · skip
          have hc82 : ¬ w = 0 := hc82
          refine lv_iload_n hx hb dX3_told_97 rfl (lv_at hl 6 rfl) ?_
          refine lv_iconst (v := nI 1) hx hb dX3_told_98 (by decide) ?_
          refine z_icmp_ne (tgt := 105) hx hb (by omega) (by omega) dX3_told_99 (by decide) (fun hc99 => ?_) (fun hc99 => ?_)
          · skip
            have hc99 : ¬ w = 1 := hc99
            refine lv_iload_n hx hb dX3_told_105 rfl (lv_at hl 6 rfl) ?_
            refine lv_iconst (v := nI 2) hx hb dX3_told_106 (by decide) ?_
            refine z_icmp_ne (tgt := 118) hx hb (by omega) (by omega) dX3_told_107 (by decide) (fun hc107 => ?_) (fun hc107 => ?_)
            · skip
              have hc107 : ¬ w = 2 := hc107
              refine lv_iload hx hb dX3_told_118 (lv_at hl 0 rfl) ?_
              refine lv_iconst (v := (-1 : Int32)) hx hb dX3_told_120 (by decide) ?_
              refine lv_icmp_ne (tgt := 143) hx hb dX3_told_121 (by decide) (fun hc121 => ?_) (fun hc121 => ?_)
              · skip
                have hc121 : ¬ (o b9) = (-1 : Int32) := hc121
                refine lv_iconst (v := (-1 : Int32)) hx hb dX3_told_143 (by decide) ?_
                exact W.iret (v := (-1 : Int32)) hx hb hr (fun t ht hW => ⟨_, rfl, (by rw [show w = 3 by omega, tell_3c (by rw [hps]; exact hc121)]), ht⟩) (fun q hq => absurd hq List.not_mem_nil) dX3_told_144
              · skip
                have hc121 : (o b9) = (-1 : Int32) := hc121
                refine lv_aload_n hx hb dX3_told_124 rfl (lv_at hl 3 rfl) ?_
                refine z_get (ci := 4) (v := .ref gg) (C := RX3) (T := TX3) (N := 12) hx hb hts in4 hown hK hm9 rfl 7 (by decide) fl21 (fun _ h9 => h9) hfg dX3_told_125 ?_
                refine lv_iload_n hx hb dX3_told_128 rfl (lv_at hl 4 rfl) ?_
                refine z_aald (k := p9) (y := g0) (t0 := 2) hx hb hK hgg rfl rfl (by omega) (by omega) hg9 dX3_told_129 ?_
                refine lv_iload hx hb dX3_told_130 (lv_at hl 2 rfl) ?_
                refine lv_iload hx hb dX3_told_132 (lv_at hl 1 rfl) ?_
                refine lv_iload hx hb dX3_told_134 (lv_at hl 2 rfl) ?_
                refine lv_isub hx hb dX3_told_136 ?_
                refine zti (pk_sub (by omega)) (y := nI (e9 - b9)) ?_
                refine z_csS (As := [.ref g0, .int (nI b9), .int (nI (e9 - b9))]) (rest := []) ⟨hx, hb, hml, hown, hts⟩ (c_X3_sumOf l D cs g0 n0 v hv b9 (e9 - b9) (by omega) (by omega) (by omega)) (va_cwS 3 hts gX3_told_X3_sumOf rfl rfl rfl (by decide +kernel) ⟨Nat.le_of_ble_eq_true rfl, Nat.le_of_ble_eq_true rfl⟩) ha1 hK rfl hl.1 rfl (Nat.le_of_ble_eq_true rfl) dX3_told_137 ⟨Nat.zero_le _, Nat.zero_le _⟩ (fun r hq9 => ?_)
                have hq9 : r = nI (wsum v b9 (e9 - b9)) := hq9
                subst hq9
                refine lv_goto (tgt := 144) hx hb dX3_told_140 (by decide) ?_
                exact W.iret (v := nI (wsum v b9 (e9 - b9))) hx hb hr (fun t ht hW => ⟨_, rfl, (by rw [show w = 3 by omega, tell_3l (by rw [hps]; exact hc121), hps, hen]), ht⟩) (fun q hq => absurd hq List.not_mem_nil) dX3_told_144
            · skip
              have hc107 : w = 2 := hc107
              refine lv_iload hx hb dX3_told_110 (lv_at hl 1 rfl) ?_
              refine lv_iload hx hb dX3_told_112 (lv_at hl 2 rfl) ?_
              refine lv_isub hx hb dX3_told_114 ?_
              refine zti (pk_sub (by omega)) (y := nI (e9 - b9)) ?_
              refine lv_goto (tgt := 144) hx hb dX3_told_115 (by decide) ?_
              exact W.iret (v := nI (e9 - b9)) hx hb hr (fun t ht hW => ⟨_, rfl, (by rw [hc107, tell_2, hps, hen]), ht⟩) (fun q hq => absurd hq List.not_mem_nil) dX3_told_144
          · skip
            have hc99 : w = 1 := hc99
            refine lv_iload hx hb dX3_told_102 (lv_at hl 0 rfl) ?_
            exact W.iret (v := o b9) hx hb hr (fun t ht hW => ⟨_, rfl, (by rw [hc99, tell_1, hps]), ht⟩) (fun q hq => absurd hq List.not_mem_nil) dX3_told_104
        · skip
          have hc82 : w = 0 := hc82
          refine lv_iload hx hb dX3_told_85 (lv_at hl 0 rfl) ?_
          refine lv_iconst (v := (-1 : Int32)) hx hb dX3_told_87 (by decide) ?_
          refine lv_icmp_ne (tgt := 95) hx hb dX3_told_88 (by decide) (fun hc88 => ?_) (fun hc88 => ?_)
          · skip
            have hc88 : ¬ (o b9) = (-1 : Int32) := hc88
            refine lv_iconst (v := nI 0) hx hb dX3_told_95 (by decide) ?_
            exact W.iret (v := nI 0) hx hb hr (fun t ht hW => ⟨_, rfl, (by rw [hc82, tell_0, hps, ltA_f hc88]; rfl), ht⟩) (fun q hq => absurd hq List.not_mem_nil) dX3_told_96
          · skip
            have hc88 : (o b9) = (-1 : Int32) := hc88
            refine lv_iconst (v := nI 1) hx hb dX3_told_91 (by decide) ?_
            refine lv_goto (tgt := 96) hx hb dX3_told_92 (by decide) ?_
            exact W.iret (v := nI 1) hx hb hr (fun t ht hW => ⟨_, rfl, (by rw [hc82, tell_0, hps, ltA_t hc88]; rfl), ht⟩) (fun q hq => absurd hq List.not_mem_nil) dX3_told_96
      · skip
        have hc61 : (stA o e9) = false := hc61
        refine lv_iinc (v := nI (e9 + 1)) (lv' := [(5, .int (nI (e9 + 1))), (4, .int (nI b9)), (0, .ref m9), (1, .int (nI p9)), (2, .int (nI i)), (3, .int (nI w))]) hx hb dX3_told_64 hl (k := 0) rfl (z_inc _) (by decide) rfl (fun ls hl => ?_)
        refine lv_goto (tgt := 42) hx hb dX3_told_67 (by decide) ?_
        exact ih42 (e9 + 1) ls (show n0 - (e9 + 1) < dd42 by omega) ⟨lv_sub hl [0, 1, 2, 3, 4, 5] rfl, (show b9 < (e9 + 1) from by omega), (show (e9 + 1) ≤ n0 from by omega), (show ct (stA o) (e9 + 1) = i + 1 from by rw [ct_f hc61]; exact hec)⟩
  · skip
    have hc8 : ¬ (nI i - nI t) < 0 := hc8
    have hc8 : ¬ i < t := fun z => hc8 ((z_lft (by omega) (by omega)).mpr z)
    refine lv_iinc (v := nI F) (lv' := [(4, .int (nI F)), (5, .int (nI i - nI t)), (0, .ref m9), (1, .int (nI p9)), (2, .int (nI i)), (3, .int (nI w))]) hx hb dX3_told_11 hl (k := 1) rfl (z_bk F) (by decide) rfl (fun ls hl => ?_)
    have ht2 : t ≤ i := by omega
    have hF2 : F ≤ n0 := by omega
    refine z_loop (σ := Nat) (fun q9 => n0 - q9) (fun q9 ls => lv_has ls 7 [(4, .int (nI q9)), (5, .int (nI i - nI t)), (0, .ref m9), (1, .int (nI p9)), (2, .int (nI i)), (3, .int (nI w))] ∧ (F ≤ q9) ∧ (ct (stA o) q9 = t) ∧ (q9 ≤ n0)) F ⟨lv_sub hl [0, 1, 2, 3, 4, 5] rfl, (show F ≤ F from Nat.le_refl F), (show ct (stA o) F = t from hct), (show F ≤ n0 from hF2)⟩ (fun dd14 ih14 y9 ls hd9 hI9 => ?_)
    obtain ⟨j, rfl⟩ : ∃ z, z = y9 := ⟨_, rfl⟩
    have hd14 : n0 - j = dd14 := hd9
    have hI9 : lv_has ls 7 [(4, .int (nI j)), (5, .int (nI i - nI t)), (0, .ref m9), (1, .int (nI p9)), (2, .int (nI i)), (3, .int (nI w))] ∧ (F ≤ j) ∧ (ct (stA o) j = t) ∧ (j ≤ n0) := hI9
    obtain ⟨hl, hj0, hj, hj1⟩ := hI9
    have hj2 := pos_ge (n := n0) (by omega) hj
    have hj3 := (pos_ok (o := o) (n := n0) (i := t) (by omega)).1
    refine lv_aload_n hx hb dX3_told_14 rfl (lv_at hl 2 rfl) ?_
    refine lv_iload_n hx hb dX3_told_15 rfl (lv_at hl 3 rfl) ?_
    refine lv_iload hx hb dX3_told_16 (lv_at hl 0 rfl) ?_
    refine z_csV (As := [.int (nI p9), .int (nI j)]) (rest := []) ⟨hx, hb, hml, hown, hts⟩ (c_X3_begins l D cs m9 go np fs fo hfo p9 hp hnp b0 n0 ho o j (by omega) (by omega)) (cwV 2 hts gX3_told_X3_begins rfl rfl rfl (by decide +kernel) ⟨Nat.le_of_ble_eq_true rfl, Nat.le_of_ble_eq_true rfl⟩) hm9 rfl ⟨hm9, hgo, ha0⟩ hK rfl hl.1 rfl (Nat.le_of_ble_eq_true rfl) dX3_told_18 ⟨Nat.zero_le _, Nat.zero_le _⟩ (fun r hq9 => ?_)
    have hq9 : r = bI (stA o j) := hq9
    subst hq9
    refine z_ifb_ne (tgt := 30) hx hb dX3_told_21 (by decide) (fun hc21 => ?_) (fun hc21 => ?_)
    · skip
      have hc21 : (stA o j) = true := hc21
      refine lv_iinc (v := nI i - nI (t + 1)) (lv' := [(5, .int (nI i - nI (t + 1))), (4, .int (nI j)), (0, .ref m9), (1, .int (nI p9)), (2, .int (nI i)), (3, .int (nI w))]) hx hb dX3_told_30 hl (k := 1) rfl (z_lfd i t) (by decide) rfl (fun ls hl => ?_)
      have e8 : nI j = nI (j + 1) - nI 1 := by rw [z_bk1 (by omega), Nat.add_sub_cancel]
      rw [e8] at hl
      have hl : lv_has ls 7 [(5, .int (nI i - nI (t + 1))), (4, .int (nI (j + 1) - nI 1)), (0, .ref m9), (1, .int (nI p9)), (2, .int (nI i)), (3, .int (nI w))] := hl
      refine lv_goto (tgt := 6) hx hb dX3_told_33 (by decide) ?_
      exact ih6 ((t + 1), (j + 1)) ls (show i + 1 - (t + 1) < dd6 by omega) ⟨lv_sub hl [0, 1, 2, 3, 4, 5] rfl, (show (t + 1) ≤ i + 1 from by omega), (show ((j + 1) = 0 ∧ (t + 1) = 0) ∨ (0 < (j + 1) ∧ (j + 1) ≤ n0 ∧ stA o ((j + 1) - 1) = true ∧ ct (stA o) ((j + 1) - 1) + 1 = (t + 1)) from Or.inr ⟨by omega, by omega, hc21, by rw [Nat.add_sub_cancel, hj]⟩), (show ct (stA o) (j + 1) = (t + 1) from by rw [ct_t hc21, hj])⟩
    · skip
      have hc21 : (stA o j) = false := hc21
      refine lv_iinc (v := nI (j + 1)) (lv' := [(4, .int (nI (j + 1))), (5, .int (nI i - nI t)), (0, .ref m9), (1, .int (nI p9)), (2, .int (nI i)), (3, .int (nI w))]) hx hb dX3_told_24 hl (k := 0) rfl (z_inc _) (by decide) rfl (fun ls hl => ?_)
      refine lv_goto (tgt := 14) hx hb dX3_told_27 (by decide) ?_
      exact ih14 (j + 1) ls (show n0 - (j + 1) < dd14 by omega) ⟨lv_sub hl [0, 1, 2, 3, 4, 5] rfl, (show F ≤ (j + 1) from by omega), (show ct (stA o) (j + 1) = t from by rw [ct_f hc21]; exact hj), (show (j + 1) ≤ n0 from by omega)⟩

set_option maxHeartbeats 4000000 in
set_option maxRecDepth 100000 in
theorem c_X0_tell (l : Launch) (D : va_G) (cs : Nat → ClassId) (pa gr ga oa sa n0 : Nat) (pb pg lb pr : Int32) (o : Nat → Int32) (v : Nat → Nat) (hv : ∀ i, v i < 256) (hn0 : n0 ≤ 400) (i : Nat) (hi : i < manyN o n0) (w : Nat) (hw : w < 4) : Met l yX0_tell wsX0_tell ({ frames := 1, cells := 0, slots := 0, locals := 25 }) (zP [.ref pa, .int (nI i), .int (nI w)] (fun H => At D pa (.inr (1, [.int pb, .int pg, .ref gr, .ref oa, .ref sa, .int lb, .int pr])) H ∧ At D oa (fa cs n0 o) H ∧ At D sa (fa cs (manyN o n0) (fun i => nI (posN o n0 i))) H ∧ At D gr (.inr (2, [.ref ga])) H ∧ At D ga (fa cs n0 (fun i => nI (v i))) H) D cs) (vp_Si (fun r => r = tellI o v n0 i w)) 0 0 (fun _ => False) := by
  refine Met.ofW (cc := cX0_tell) (maxL := 6) (ret := (some .int)) (by decide) rfl ?_
  intro p e s m args below meth c s₁ B hml hv
  obtain ⟨rfl, hPH, hK⟩ := hv
  have hx := B.exec
  have hb := B.bytes
  have hr := B.returns
  have hts := atoms_spec (ws := wsX0_tell) B.pre
  have hown : s.vm.findClass RX0 = some m.cls := findClass_of_methodNamed B.named
  have hlocks := B.notSynchronized
  have fl18 := hts (.fieldLink RX0 18 "DeltaUpdater$Patch" "goalRow" "LDeltaUpdater$Row;") (by decide +kernel)
  have fl22 := hts (.fieldLink RX0 22 "DeltaUpdater$Patch" "origins" "[I") (by decide +kernel)
  have fl30 := hts (.fieldLink RX0 30 "DeltaUpdater$Patch" "starts" "[I") (by decide +kernel)
  have in1 : ∀ w ∈ u_ws RX0 TX0 7, w ∈ wsX0_tell := by decide +kernel
  have hPH : At D pa (.inr (1, [.int pb, .int pg, .ref gr, .ref oa, .ref sa, .int lb, .int pr])) s.heap ∧ At D oa (fa cs n0 o) s.heap ∧ At D sa (fa cs (manyN o n0) (fun i => nI (posN o n0 i))) s.heap ∧ At D gr (.inr (2, [.ref ga])) s.heap ∧ At D ga (fa cs n0 (fun i => nI (v i))) s.heap := hPH
  obtain ⟨hpa, hoa, hsa, hgr, hga⟩ := hPH
  have hl := lv_entry ([.ref pa, .int (nI i), .int (nI w)]) (n := 6) (Nat.le_of_ble_eq_true rfl)
  rw [lg_entry_eq]
  generalize (lg_sl ([.ref pa, .int (nI i), .int (nI w)]) ++ List.replicate (6 - (lg_sl ([.ref pa, .int (nI i), .int (nI w)])).length) Slot.unset).toArray = ls at hl ⊢
  have hl : lv_has ls 6 [(0, .ref pa), (1, .int (nI i)), (2, .int (nI w))] := hl
  have hmn : manyN o n0 ≤ n0 := ct_le (stA o) n0
  have hps := pos_ok hi
  have hpe := pos_end hi
  have hel := end_le (o := o) (n := n0) (i := i)
  refine lv_aload_n hx hb dX0_tell_0 rfl (lv_at hl 0 rfl) ?_
  refine z_get (ci := 1) (v := .ref sa) (C := RX0) (T := TX0) (N := 7) hx hb hts in1 hown hK hpa rfl 4 (by decide) fl30 (fun _ h9 => h9) rfl dX0_tell_1 ?_
  refine lv_iload_n hx hb dX0_tell_4 rfl (lv_at hl 1 rfl) ?_
  refine z_iald (k := i) (f := fun i => nI ((posN o n0) i)) hx hb hK hsa (by omega) (by omega) dX0_tell_5 ?_
  refine zti (y := nI ((posN o n0) i)) rfl ?_
  refine lv_istore_n (lv' := [(3, .int (nI ((posN o n0) i))), (0, .ref pa), (1, .int (nI i)), (2, .int (nI w))]) hx hb dX0_tell_6 rfl hl (by decide) rfl (fun ls hl => ?_)
  refine lv_iload_n hx hb dX0_tell_7 rfl (lv_at hl 2 rfl) ?_
  refine lv_iconst (v := nI 1) hx hb dX0_tell_8 (by decide) ?_
  refine lv_iadd hx hb dX0_tell_9 ?_
  refine zti (nI_add _ _) (y := nI (i + 1)) ?_
  refine lv_aload_n hx hb dX0_tell_10 rfl (lv_at hl 1 rfl) ?_
  refine z_get (ci := 1) (v := .ref sa) (C := RX0) (T := TX0) (N := 7) hx hb hts in1 hown hK hpa rfl 4 (by decide) fl30 (fun _ h9 => h9) rfl dX0_tell_11 ?_
  refine z_alen (n := (manyN o n0)) hx hb hK hsa dX0_tell_14 ?_
  refine z_icmp_ge (tgt := 29) hx hb (by omega) (by omega) dX0_tell_15 (by decide) (fun hc15 => ?_) (fun hc15 => ?_)
  · skip
    have hc15 : (manyN o n0) ≤ i + 1 := hc15
    refine lv_aload_n hx hb dX0_tell_29 rfl (lv_at hl 1 rfl) ?_
    refine z_get (ci := 1) (v := .ref oa) (C := RX0) (T := TX0) (N := 7) hx hb hts in1 hown hK hpa rfl 3 (by decide) fl22 (fun _ h9 => h9) rfl dX0_tell_30 ?_
    refine z_alen (n := n0) hx hb hK hoa dX0_tell_33 ?_
    have hen : endN o n0 i = n0 := if_neg (show ¬ i + 1 < manyN o n0 by omega)
    refine zti (y := nI (endN o n0 i)) (congrArg nI hen.symm) ?_
    refine lv_istore (lv' := [(4, .int (nI (endN o n0 i))), (3, .int (nI ((posN o n0) i))), (0, .ref pa), (1, .int (nI i)), (2, .int (nI w))]) hx hb dX0_tell_34 hl (by decide) rfl (fun ls hl => ?_)
    refine lv_aload_n hx hb dX0_tell_36 rfl (lv_at hl 2 rfl) ?_
    refine z_get (ci := 1) (v := .ref oa) (C := RX0) (T := TX0) (N := 7) hx hb hts in1 hown hK hpa rfl 3 (by decide) fl22 (fun _ h9 => h9) rfl dX0_tell_37 ?_
    refine lv_iload_n hx hb dX0_tell_40 rfl (lv_at hl 1 rfl) ?_
    refine z_iald (k := ((posN o n0) i)) (f := o) hx hb hK hoa (by omega) (by omega) dX0_tell_41 ?_
    refine lv_iconst (v := (-1 : Int32)) hx hb dX0_tell_42 (by decide) ?_
    refine lv_icmp_ne (tgt := 50) hx hb dX0_tell_43 (by decide) (fun hc43 => ?_) (fun hc43 => ?_)
    · skip
      have hc43 : ¬ (o ((posN o n0) i)) = (-1 : Int32) := hc43
      refine lv_iconst (v := nI 0) hx hb dX0_tell_50 (by decide) ?_
      refine zti (y := bI false) rfl ?_
      refine lv_istore (lv' := [(5, .int (bI false)), (4, .int (nI (endN o n0 i))), (3, .int (nI ((posN o n0) i))), (0, .ref pa), (1, .int (nI i)), (2, .int (nI w))]) hx hb dX0_tell_51 hl (by decide) rfl (fun ls hl => ?_)
      refine lv_iload_n hx hb dX0_tell_53 rfl (lv_at hl 5 rfl) ?_
      rcases z_w4 hw with hw9 | hw9 | hw9 | hw9
      · skip
        subst hw9
        refine lv_tableIn (tgt := 80) hx hb dX0_tell_54 (by decide) (by decide) rfl (by decide) ?_
        refine lv_iload hx hb dX0_tell_80 (lv_at hl 0 rfl) ?_
        refine z_ifb_eq (tgt := 89) hx hb dX0_tell_82 (by decide) (fun _ => ?_) (fun h9 => absurd h9 (by decide))
        refine lv_iconst (v := nI 0) hx hb dX0_tell_89 (by decide) ?_
        exact W.iret (v := nI 0) hx hb hr (fun t ht hW => ⟨_, rfl, (by rw [tell_0, ltA_f hc43]; rfl), ht⟩) (fun q hq => absurd hq List.not_mem_nil) dX0_tell_90
      · skip
        subst hw9
        refine lv_tableIn (tgt := 91) hx hb dX0_tell_54 (by decide) (by decide) rfl (by decide) ?_
        refine lv_aload_n hx hb dX0_tell_91 rfl (lv_at hl 3 rfl) ?_
        refine z_get (ci := 1) (v := .ref oa) (C := RX0) (T := TX0) (N := 7) hx hb hts in1 hown hK hpa rfl 3 (by decide) fl22 (fun _ h9 => h9) rfl dX0_tell_92 ?_
        refine lv_iload_n hx hb dX0_tell_95 rfl (lv_at hl 2 rfl) ?_
        refine z_iald (k := ((posN o n0) i)) (f := o) hx hb hK hoa (by omega) (by omega) dX0_tell_96 ?_
        exact W.iret (v := o ((posN o n0) i)) hx hb hr (fun t ht hW => ⟨_, rfl, tell_1.symm, ht⟩) (fun q hq => absurd hq List.not_mem_nil) dX0_tell_97
      · skip
        subst hw9
        refine lv_tableIn (tgt := 98) hx hb dX0_tell_54 (by decide) (by decide) rfl (by decide) ?_
        refine lv_iload hx hb dX0_tell_98 (lv_at hl 1 rfl) ?_
        refine lv_iload_n hx hb dX0_tell_100 rfl (lv_at hl 2 rfl) ?_
        refine lv_isub hx hb dX0_tell_101 ?_
        refine zti (pk_sub (by omega)) (y := nI ((endN o n0 i) - ((posN o n0) i))) ?_
        exact W.iret (v := nI ((endN o n0 i) - ((posN o n0) i))) hx hb hr (fun t ht hW => ⟨_, rfl, tell_2.symm, ht⟩) (fun q hq => absurd hq List.not_mem_nil) dX0_tell_102
      · skip
        subst hw9
        refine lv_tableOut (tgt := 103) hx hb dX0_tell_54 (by decide) (by decide) ?_
        refine lv_iload hx hb dX0_tell_103 (lv_at hl 0 rfl) ?_
        refine z_ifb_eq (tgt := 123) hx hb dX0_tell_105 (by decide) (fun _ => ?_) (fun h9 => absurd h9 (by decide))
        refine lv_iconst (v := (-1 : Int32)) hx hb dX0_tell_123 (by decide) ?_
        exact W.iret (v := (-1 : Int32)) hx hb hr (fun t ht hW => ⟨_, rfl, (tell_3c hc43).symm, ht⟩) (fun q hq => absurd hq List.not_mem_nil) dX0_tell_124
    · skip
      have hc43 : (o ((posN o n0) i)) = (-1 : Int32) := hc43
      refine lv_iconst (v := nI 1) hx hb dX0_tell_46 (by decide) ?_
      refine lv_goto (tgt := 51) hx hb dX0_tell_47 (by decide) ?_
      refine zti (y := bI true) rfl ?_
      refine lv_istore (lv' := [(5, .int (bI true)), (4, .int (nI (endN o n0 i))), (3, .int (nI ((posN o n0) i))), (0, .ref pa), (1, .int (nI i)), (2, .int (nI w))]) hx hb dX0_tell_51 hl (by decide) rfl (fun ls hl => ?_)
      refine lv_iload_n hx hb dX0_tell_53 rfl (lv_at hl 5 rfl) ?_
      rcases z_w4 hw with hw9 | hw9 | hw9 | hw9
      · skip
        subst hw9
        refine lv_tableIn (tgt := 80) hx hb dX0_tell_54 (by decide) (by decide) rfl (by decide) ?_
        refine lv_iload hx hb dX0_tell_80 (lv_at hl 0 rfl) ?_
        refine z_ifb_eq (tgt := 89) hx hb dX0_tell_82 (by decide) (fun h9 => absurd h9 (by decide)) (fun _ => ?_)
        refine lv_iconst (v := nI 1) hx hb dX0_tell_85 (by decide) ?_
        refine lv_goto (tgt := 90) hx hb dX0_tell_86 (by decide) ?_
        exact W.iret (v := nI 1) hx hb hr (fun t ht hW => ⟨_, rfl, (by rw [tell_0, ltA_t hc43]; rfl), ht⟩) (fun q hq => absurd hq List.not_mem_nil) dX0_tell_90
      · skip
        subst hw9
        refine lv_tableIn (tgt := 91) hx hb dX0_tell_54 (by decide) (by decide) rfl (by decide) ?_
        refine lv_aload_n hx hb dX0_tell_91 rfl (lv_at hl 3 rfl) ?_
        refine z_get (ci := 1) (v := .ref oa) (C := RX0) (T := TX0) (N := 7) hx hb hts in1 hown hK hpa rfl 3 (by decide) fl22 (fun _ h9 => h9) rfl dX0_tell_92 ?_
        refine lv_iload_n hx hb dX0_tell_95 rfl (lv_at hl 2 rfl) ?_
        refine z_iald (k := ((posN o n0) i)) (f := o) hx hb hK hoa (by omega) (by omega) dX0_tell_96 ?_
        exact W.iret (v := o ((posN o n0) i)) hx hb hr (fun t ht hW => ⟨_, rfl, tell_1.symm, ht⟩) (fun q hq => absurd hq List.not_mem_nil) dX0_tell_97
      · skip
        subst hw9
        refine lv_tableIn (tgt := 98) hx hb dX0_tell_54 (by decide) (by decide) rfl (by decide) ?_
        refine lv_iload hx hb dX0_tell_98 (lv_at hl 1 rfl) ?_
        refine lv_iload_n hx hb dX0_tell_100 rfl (lv_at hl 2 rfl) ?_
        refine lv_isub hx hb dX0_tell_101 ?_
        refine zti (pk_sub (by omega)) (y := nI ((endN o n0 i) - ((posN o n0) i))) ?_
        exact W.iret (v := nI ((endN o n0 i) - ((posN o n0) i))) hx hb hr (fun t ht hW => ⟨_, rfl, tell_2.symm, ht⟩) (fun q hq => absurd hq List.not_mem_nil) dX0_tell_102
      · skip
        subst hw9
        refine lv_tableOut (tgt := 103) hx hb dX0_tell_54 (by decide) (by decide) ?_
        refine lv_iload hx hb dX0_tell_103 (lv_at hl 0 rfl) ?_
        refine z_ifb_eq (tgt := 123) hx hb dX0_tell_105 (by decide) (fun h9 => absurd h9 (by decide)) (fun _ => ?_)
        refine lv_aload_n hx hb dX0_tell_108 rfl (lv_at hl 3 rfl) ?_
        refine z_get (ci := 1) (v := .ref gr) (C := RX0) (T := TX0) (N := 7) hx hb hts in1 hown hK hpa rfl 2 (by decide) fl18 (fun _ h9 => h9) rfl dX0_tell_109 ?_
        refine lv_iload_n hx hb dX0_tell_112 rfl (lv_at hl 2 rfl) ?_
        refine lv_iload hx hb dX0_tell_113 (lv_at hl 1 rfl) ?_
        refine lv_iload_n hx hb dX0_tell_115 rfl (lv_at hl 2 rfl) ?_
        refine lv_isub hx hb dX0_tell_116 ?_
        refine zti (pk_sub (by omega)) (y := nI ((endN o n0 i) - ((posN o n0) i))) ?_
        refine z_csV (As := [.int (nI ((posN o n0) i)), .int (nI ((endN o n0 i) - ((posN o n0) i)))]) (rest := []) ⟨hx, hb, hml, hown, hts⟩ (c_X1_sumOf l D cs gr ga n0 v hv (posN o n0 i) (endN o n0 i - posN o n0 i) (by omega) (by omega) (by omega)) (cwV 2 hts gX0_tell_X1_sumOf rfl rfl rfl (by decide +kernel) ⟨Nat.le_of_ble_eq_true rfl, Nat.le_of_ble_eq_true rfl⟩) hgr rfl ⟨hgr, hga⟩ hK rfl hl.1 rfl (Nat.le_of_ble_eq_true rfl) dX0_tell_117 ⟨Nat.zero_le _, Nat.zero_le _⟩ (fun r hq9 => ?_)
        have hq9 : r = nI (wsum v (posN o n0 i) (endN o n0 i - posN o n0 i)) := hq9
        subst hq9
        refine lv_goto (tgt := 124) hx hb dX0_tell_120 (by decide) ?_
        exact W.iret (v := nI (wsum v (posN o n0 i) (endN o n0 i - posN o n0 i))) hx hb hr (fun t ht hW => ⟨_, rfl, (tell_3l hc43).symm, ht⟩) (fun q hq => absurd hq List.not_mem_nil) dX0_tell_124
  · skip
    have hc15 : i + 1 < (manyN o n0) := hc15
    refine lv_aload_n hx hb dX0_tell_18 rfl (lv_at hl 1 rfl) ?_
    refine z_get (ci := 1) (v := .ref sa) (C := RX0) (T := TX0) (N := 7) hx hb hts in1 hown hK hpa rfl 4 (by decide) fl30 (fun _ h9 => h9) rfl dX0_tell_19 ?_
    refine lv_iload_n hx hb dX0_tell_22 rfl (lv_at hl 2 rfl) ?_
    refine lv_iconst (v := nI 1) hx hb dX0_tell_23 (by decide) ?_
    refine lv_iadd hx hb dX0_tell_24 ?_
    refine zti (nI_add _ _) (y := nI (i + 1)) ?_
    refine z_iald (k := (i + 1)) (f := fun i => nI ((posN o n0) i)) hx hb hK hsa (by omega) (by omega) dX0_tell_25 ?_
    refine zti (y := nI ((posN o n0) (i + 1))) rfl ?_
    refine lv_goto (tgt := 34) hx hb dX0_tell_26 (by decide) ?_
    have hen : endN o n0 i = posN o n0 (i + 1) := if_pos (show i + 1 < manyN o n0 by omega)
    refine zti (y := nI (endN o n0 i)) (congrArg nI hen.symm) ?_
    refine lv_istore (lv' := [(4, .int (nI (endN o n0 i))), (3, .int (nI ((posN o n0) i))), (0, .ref pa), (1, .int (nI i)), (2, .int (nI w))]) hx hb dX0_tell_34 hl (by decide) rfl (fun ls hl => ?_)
    refine lv_aload_n hx hb dX0_tell_36 rfl (lv_at hl 2 rfl) ?_
    refine z_get (ci := 1) (v := .ref oa) (C := RX0) (T := TX0) (N := 7) hx hb hts in1 hown hK hpa rfl 3 (by decide) fl22 (fun _ h9 => h9) rfl dX0_tell_37 ?_
    refine lv_iload_n hx hb dX0_tell_40 rfl (lv_at hl 1 rfl) ?_
    refine z_iald (k := ((posN o n0) i)) (f := o) hx hb hK hoa (by omega) (by omega) dX0_tell_41 ?_
    refine lv_iconst (v := (-1 : Int32)) hx hb dX0_tell_42 (by decide) ?_
    refine lv_icmp_ne (tgt := 50) hx hb dX0_tell_43 (by decide) (fun hc43 => ?_) (fun hc43 => ?_)
    · skip
      have hc43 : ¬ (o ((posN o n0) i)) = (-1 : Int32) := hc43
      refine lv_iconst (v := nI 0) hx hb dX0_tell_50 (by decide) ?_
      refine zti (y := bI false) rfl ?_
      refine lv_istore (lv' := [(5, .int (bI false)), (4, .int (nI (endN o n0 i))), (3, .int (nI ((posN o n0) i))), (0, .ref pa), (1, .int (nI i)), (2, .int (nI w))]) hx hb dX0_tell_51 hl (by decide) rfl (fun ls hl => ?_)
      refine lv_iload_n hx hb dX0_tell_53 rfl (lv_at hl 5 rfl) ?_
      rcases z_w4 hw with hw9 | hw9 | hw9 | hw9
      · skip
        subst hw9
        refine lv_tableIn (tgt := 80) hx hb dX0_tell_54 (by decide) (by decide) rfl (by decide) ?_
        refine lv_iload hx hb dX0_tell_80 (lv_at hl 0 rfl) ?_
        refine z_ifb_eq (tgt := 89) hx hb dX0_tell_82 (by decide) (fun _ => ?_) (fun h9 => absurd h9 (by decide))
        refine lv_iconst (v := nI 0) hx hb dX0_tell_89 (by decide) ?_
        exact W.iret (v := nI 0) hx hb hr (fun t ht hW => ⟨_, rfl, (by rw [tell_0, ltA_f hc43]; rfl), ht⟩) (fun q hq => absurd hq List.not_mem_nil) dX0_tell_90
      · skip
        subst hw9
        refine lv_tableIn (tgt := 91) hx hb dX0_tell_54 (by decide) (by decide) rfl (by decide) ?_
        refine lv_aload_n hx hb dX0_tell_91 rfl (lv_at hl 3 rfl) ?_
        refine z_get (ci := 1) (v := .ref oa) (C := RX0) (T := TX0) (N := 7) hx hb hts in1 hown hK hpa rfl 3 (by decide) fl22 (fun _ h9 => h9) rfl dX0_tell_92 ?_
        refine lv_iload_n hx hb dX0_tell_95 rfl (lv_at hl 2 rfl) ?_
        refine z_iald (k := ((posN o n0) i)) (f := o) hx hb hK hoa (by omega) (by omega) dX0_tell_96 ?_
        exact W.iret (v := o ((posN o n0) i)) hx hb hr (fun t ht hW => ⟨_, rfl, tell_1.symm, ht⟩) (fun q hq => absurd hq List.not_mem_nil) dX0_tell_97
      · skip
        subst hw9
        refine lv_tableIn (tgt := 98) hx hb dX0_tell_54 (by decide) (by decide) rfl (by decide) ?_
        refine lv_iload hx hb dX0_tell_98 (lv_at hl 1 rfl) ?_
        refine lv_iload_n hx hb dX0_tell_100 rfl (lv_at hl 2 rfl) ?_
        refine lv_isub hx hb dX0_tell_101 ?_
        refine zti (pk_sub (by omega)) (y := nI ((endN o n0 i) - ((posN o n0) i))) ?_
        exact W.iret (v := nI ((endN o n0 i) - ((posN o n0) i))) hx hb hr (fun t ht hW => ⟨_, rfl, tell_2.symm, ht⟩) (fun q hq => absurd hq List.not_mem_nil) dX0_tell_102
      · skip
        subst hw9
        refine lv_tableOut (tgt := 103) hx hb dX0_tell_54 (by decide) (by decide) ?_
        refine lv_iload hx hb dX0_tell_103 (lv_at hl 0 rfl) ?_
        refine z_ifb_eq (tgt := 123) hx hb dX0_tell_105 (by decide) (fun _ => ?_) (fun h9 => absurd h9 (by decide))
        refine lv_iconst (v := (-1 : Int32)) hx hb dX0_tell_123 (by decide) ?_
        exact W.iret (v := (-1 : Int32)) hx hb hr (fun t ht hW => ⟨_, rfl, (tell_3c hc43).symm, ht⟩) (fun q hq => absurd hq List.not_mem_nil) dX0_tell_124
    · skip
      have hc43 : (o ((posN o n0) i)) = (-1 : Int32) := hc43
      refine lv_iconst (v := nI 1) hx hb dX0_tell_46 (by decide) ?_
      refine lv_goto (tgt := 51) hx hb dX0_tell_47 (by decide) ?_
      refine zti (y := bI true) rfl ?_
      refine lv_istore (lv' := [(5, .int (bI true)), (4, .int (nI (endN o n0 i))), (3, .int (nI ((posN o n0) i))), (0, .ref pa), (1, .int (nI i)), (2, .int (nI w))]) hx hb dX0_tell_51 hl (by decide) rfl (fun ls hl => ?_)
      refine lv_iload_n hx hb dX0_tell_53 rfl (lv_at hl 5 rfl) ?_
      rcases z_w4 hw with hw9 | hw9 | hw9 | hw9
      · skip
        subst hw9
        refine lv_tableIn (tgt := 80) hx hb dX0_tell_54 (by decide) (by decide) rfl (by decide) ?_
        refine lv_iload hx hb dX0_tell_80 (lv_at hl 0 rfl) ?_
        refine z_ifb_eq (tgt := 89) hx hb dX0_tell_82 (by decide) (fun h9 => absurd h9 (by decide)) (fun _ => ?_)
        refine lv_iconst (v := nI 1) hx hb dX0_tell_85 (by decide) ?_
        refine lv_goto (tgt := 90) hx hb dX0_tell_86 (by decide) ?_
        exact W.iret (v := nI 1) hx hb hr (fun t ht hW => ⟨_, rfl, (by rw [tell_0, ltA_t hc43]; rfl), ht⟩) (fun q hq => absurd hq List.not_mem_nil) dX0_tell_90
      · skip
        subst hw9
        refine lv_tableIn (tgt := 91) hx hb dX0_tell_54 (by decide) (by decide) rfl (by decide) ?_
        refine lv_aload_n hx hb dX0_tell_91 rfl (lv_at hl 3 rfl) ?_
        refine z_get (ci := 1) (v := .ref oa) (C := RX0) (T := TX0) (N := 7) hx hb hts in1 hown hK hpa rfl 3 (by decide) fl22 (fun _ h9 => h9) rfl dX0_tell_92 ?_
        refine lv_iload_n hx hb dX0_tell_95 rfl (lv_at hl 2 rfl) ?_
        refine z_iald (k := ((posN o n0) i)) (f := o) hx hb hK hoa (by omega) (by omega) dX0_tell_96 ?_
        exact W.iret (v := o ((posN o n0) i)) hx hb hr (fun t ht hW => ⟨_, rfl, tell_1.symm, ht⟩) (fun q hq => absurd hq List.not_mem_nil) dX0_tell_97
      · skip
        subst hw9
        refine lv_tableIn (tgt := 98) hx hb dX0_tell_54 (by decide) (by decide) rfl (by decide) ?_
        refine lv_iload hx hb dX0_tell_98 (lv_at hl 1 rfl) ?_
        refine lv_iload_n hx hb dX0_tell_100 rfl (lv_at hl 2 rfl) ?_
        refine lv_isub hx hb dX0_tell_101 ?_
        refine zti (pk_sub (by omega)) (y := nI ((endN o n0 i) - ((posN o n0) i))) ?_
        exact W.iret (v := nI ((endN o n0 i) - ((posN o n0) i))) hx hb hr (fun t ht hW => ⟨_, rfl, tell_2.symm, ht⟩) (fun q hq => absurd hq List.not_mem_nil) dX0_tell_102
      · skip
        subst hw9
        refine lv_tableOut (tgt := 103) hx hb dX0_tell_54 (by decide) (by decide) ?_
        refine lv_iload hx hb dX0_tell_103 (lv_at hl 0 rfl) ?_
        refine z_ifb_eq (tgt := 123) hx hb dX0_tell_105 (by decide) (fun h9 => absurd h9 (by decide)) (fun _ => ?_)
        refine lv_aload_n hx hb dX0_tell_108 rfl (lv_at hl 3 rfl) ?_
        refine z_get (ci := 1) (v := .ref gr) (C := RX0) (T := TX0) (N := 7) hx hb hts in1 hown hK hpa rfl 2 (by decide) fl18 (fun _ h9 => h9) rfl dX0_tell_109 ?_
        refine lv_iload_n hx hb dX0_tell_112 rfl (lv_at hl 2 rfl) ?_
        refine lv_iload hx hb dX0_tell_113 (lv_at hl 1 rfl) ?_
        refine lv_iload_n hx hb dX0_tell_115 rfl (lv_at hl 2 rfl) ?_
        refine lv_isub hx hb dX0_tell_116 ?_
        refine zti (pk_sub (by omega)) (y := nI ((endN o n0 i) - ((posN o n0) i))) ?_
        refine z_csV (As := [.int (nI ((posN o n0) i)), .int (nI ((endN o n0 i) - ((posN o n0) i)))]) (rest := []) ⟨hx, hb, hml, hown, hts⟩ (c_X1_sumOf l D cs gr ga n0 v hv (posN o n0 i) (endN o n0 i - posN o n0 i) (by omega) (by omega) (by omega)) (cwV 2 hts gX0_tell_X1_sumOf rfl rfl rfl (by decide +kernel) ⟨Nat.le_of_ble_eq_true rfl, Nat.le_of_ble_eq_true rfl⟩) hgr rfl ⟨hgr, hga⟩ hK rfl hl.1 rfl (Nat.le_of_ble_eq_true rfl) dX0_tell_117 ⟨Nat.zero_le _, Nat.zero_le _⟩ (fun r hq9 => ?_)
        have hq9 : r = nI (wsum v (posN o n0 i) (endN o n0 i - posN o n0 i)) := hq9
        subst hq9
        refine lv_goto (tgt := 124) hx hb dX0_tell_120 (by decide) ?_
        exact W.iret (v := nI (wsum v (posN o n0 i) (endN o n0 i - posN o n0 i))) hx hb hr (fun t ht hW => ⟨_, rfl, (tell_3l hc43).symm, ht⟩) (fun q hq => absurd hq List.not_mem_nil) dX0_tell_124
