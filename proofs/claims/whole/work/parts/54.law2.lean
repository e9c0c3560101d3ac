/-! the law's calls -/

set_option maxHeartbeats 4000000 in
set_option maxRecDepth 100000 in
theorem law_13 {p : Program} {l : Launch} {e : Env} {s : State} {m : MethodId} {below : List Frame} {meth : Method} {c : Code} {b9 L : Nat} {xs : Nat → Int32} (hfl : l.stackTraces = false) (hL : L ≤ 2048) (C0 : lw_At p s m meth c b9 L xs) {D : va_G} {cs : Nat → ClassId} {ea mi : Nat} {sa : Nat → Nat} (E0 : lw_E D cs ea mi sa s) {a b : Nat → Nat} {ol od j cells slots : Nat} {H : Heap} {locs : List Loc} {ls : Array Slot} (hj : 4 * j + 4 ≤ L) (hcl : cells + 6 ≤ 601024) (hsl : slots + 2007 ≤ 7293034) (hI : lw_I D cs s.heap.size ea a b ol od H) (hS : va_S (SA s.heap.size) s.heap H locs) (hl : lv_has ls 9 [(0, .ref b9), (1, .ref (a 0)), (2, .ref (b 0)), (3, .ref ol), (4, .ref od), (5, .int (nI (4 * j)))])
    (kk : ∀ (H : Heap) (locs : List Loc) (ls : Array Slot), lw_I D cs s.heap.size ea a b ol od H → va_S (SA s.heap.size) s.heap H locs → lv_has ls 9 [(0, .ref b9), (1, .ref (a 0)), (2, .ref (b 0)), (3, .ref ol), (4, .ref od), (5, .int (nI (4 * j)))] → W p l e room_1 s m #[Value.ref b9] below meth c H locs (cells + 6) (slots + 2007) (lw_Z below #[Value.ref b9] s) (F0 m 1612 ls [])) : W p l e room_1 s m #[Value.ref b9] below meth c H locs cells slots (lw_Z below #[Value.ref b9] s) (F0 m 949 ls []) := by
  obtain ⟨hx, hb, hr, hml, hown, hts0, hX, hbl, hlocks, hgv⟩ := C0
  obtain ⟨hK, hE, hN, hA9⟩ := E0
  obtain ⟨σ, u, w, th, f1, f2, O, hW, hXF, hMF⟩ := hI
  have hb : c.code = cL_law := hb
  have hown : s.vm.findClass RL = some m.cls := hown
  have hts : ∀ w ∈ wsL_law, w.before #[Value.ref b9] s = true := fun w h => hts0 w (wsL_law_in w h)
  have hok := hXF.2.2.2.2.2.2.2.2
  have hn1 := hok.2.1.1
  have hn2 := hok.2.2.1.1
  have hn3 := hok.2.2.2.1.1
  have hRc : room_1.cells = 601024 := rfl
  have hRs : room_1.slots = 7293034 := rfl
  refine lv_aload_n hx hb dL_law_949 rfl (lv_at hl 1 rfl) ?_
  refine lv_aload_n hx hb dL_law_950 rfl (lv_at hl 0 rfl) ?_
  refine lv_iload hx hb dL_law_951 (lv_at hl 5 rfl) ?_
  refine lv_iconst (v := nI 1) hx hb dL_law_953 (by decide) ?_
  refine lv_iadd hx hb dL_law_954 ?_
  refine zti (nI_add _ _) (y := nI (4 * j + 1)) ?_
  refine z_sld (k := (4 * j + 1)) hx hb hX hbl hS (by omega) hL dL_law_955 ?_
  refine lv_aload_n hx hb dL_law_956 rfl (lv_at hl 0 rfl) ?_
  refine lv_iload hx hb dL_law_957 (lv_at hl 5 rfl) ?_
  refine lv_iconst (v := nI 2) hx hb dL_law_959 (by decide) ?_
  refine lv_iadd hx hb dL_law_960 ?_
  refine zti (nI_add _ _) (y := nI (4 * j + 2)) ?_
  refine z_sld (k := (4 * j + 2)) hx hb hX hbl hS (by omega) hL dL_law_961 ?_
  refine lv_aload_n hx hb dL_law_962 rfl (lv_at hl 0 rfl) ?_
  refine lv_iload hx hb dL_law_963 (lv_at hl 5 rfl) ?_
  refine lv_iconst (v := nI 3) hx hb dL_law_965 (by decide) ?_
  refine lv_iadd hx hb dL_law_966 ?_
  refine zti (nI_add _ _) (y := nI (4 * j + 3)) ?_
  refine z_sld (k := (4 * j + 3)) hx hb hX hbl hS (by omega) hL dL_law_967 ?_
  refine lv_aload_n hx hb dL_law_968 rfl (lv_at hl 3 rfl) ?_
  obtain ⟨k9, R9, τ9, hk9, hc1, hc2⟩ := bo_instruction l hfl σ hXF.2.2.2.2.2.2.2.2 (xs (4 * j + 1)) (xs (4 * j + 2)) (xs (4 * j + 3))
  have hW1 := LW.cls hW
  refine z_cmI (vx_runSW (As := [.ref (a 0), .int (xs (4 * j + 1)), .int (xs (4 * j + 2)), .int (xs (4 * j + 3)), .ref ol]) (rest := []) ⟨hx, hb, hml, hown, hts⟩ (hc1 D cs s.heap.size ea mi sa _ a u ol f1 (hXF.toL (b := b) (w := mkW w) (th := th) (σm := σ) (od := od) (f2 := f2))) (vx_cwSW 5 hts gL_law_L_instruction rfl rfl rfl (by decide +kernel) ⟨Nat.le_of_ble_eq_true rfl, Nat.le_of_ble_eq_true rfl⟩) ⟨zN_blind, zN_pre hW1 hK hE hN hS⟩ rfl rfl hl.1 rfl (lv_room (Nat.le_of_ble_eq_true rfl)) dL_law_969 ⟨by rw [hRc]; omega, by rw [hRs]; omega⟩) hS (fun r v H locs hu hW hS => ?_)
  obtain ⟨hu1, hu2, hu3⟩ := hu
  rw [hu1]
  have hW := LW.ret hW
  have hXF := hu3.ofL
  have hMF := (hMF.mk).more (Z' := v.2.1 ++ O) (fun q9 h9 => List.mem_append_right _ h9)
  have hW : Wd D s.heap.size (LW cs a b ol od v.1 τ9 (mkW w) th σ v.2.2 f2 (v.2.1 ++ O)) H := hW
  refine lv_istore (lv' := [(6, .int (nI k9)), (0, .ref b9), (1, .ref (a 0)), (2, .ref (b 0)), (3, .ref ol), (4, .ref od), (5, .int (nI (4 * j)))]) hx hb dL_law_972 hl (by decide) rfl (fun ls hl => ?_)
  refine lv_aload_n hx hb dL_law_974 rfl (lv_at hl 3 rfl) ?_
  refine lv_aload_n hx hb dL_law_975 rfl (lv_at hl 1 rfl) ?_
  refine lv_iload hx hb dL_law_976 (lv_at hl 6 rfl) ?_
  refine lv_iconst (v := nI 1) hx hb dL_law_978 (by decide) ?_
  refine lv_iadd hx hb dL_law_979 ?_
  refine zti (nI_add _ _) (y := nI (4 * j + 1)) ?_
  refine z_sld (k := (4 * j + 1)) hx hb hX hbl hS (by omega) hL dL_law_980 ?_
  refine lv_aload_n hx hb dL_law_981 rfl (lv_at hl 1 rfl) ?_
  refine lv_iload hx hb dL_law_982 (lv_at hl 6 rfl) ?_
  refine lv_iconst (v := nI 2) hx hb dL_law_984 (by decide) ?_
  refine lv_iadd hx hb dL_law_985 ?_
  refine zti (nI_add _ _) (y := nI (4 * j + 2)) ?_
  refine z_sld (k := (4 * j + 2)) hx hb hX hbl hS (by omega) hL dL_law_986 ?_
  refine lv_aload_n hx hb dL_law_987 rfl (lv_at hl 1 rfl) ?_
  refine lv_iload hx hb dL_law_988 (lv_at hl 6 rfl) ?_
  refine lv_iconst (v := nI 3) hx hb dL_law_990 (by decide) ?_
  refine lv_iadd hx hb dL_law_991 ?_
  refine zti (nI_add _ _) (y := nI (4 * j + 3)) ?_
  refine z_sld (k := (4 * j + 3)) hx hb hX hbl hS (by omega) hL dL_law_992 ?_
  have hW1 := LW.mdl hW
  refine z_cmI (va_runV (As := [.int (xs (4 * j + 1)), .int (xs (4 * j + 2)), .int (xs (4 * j + 3))]) (rest := []) ⟨hx, hb, hml, hown, hts⟩ (hc2 D cs s.heap.size _ b (mkW w) th (hMF.toL (cs := cs) (a := a) (ol := ol) (od := od) (f1 := v.2.2) (f2 := f2) (u' := mkU v.1) (σc := τ9))) (cwV 3 hts gL_law_X3_instruction rfl rfl rfl (by decide +kernel) ⟨Nat.le_of_ble_eq_true rfl, Nat.le_of_ble_eq_true rfl⟩) ⟨zM_blind, z_recv hK (hW1.1 0 _ rfl) rfl, zM_pre hW1 hK hA9⟩ rfl rfl hl.1 rfl (lv_room (Nat.le_of_ble_eq_true rfl)) dL_law_993 ⟨by rw [hRc]; omega, by rw [hRs]; omega⟩) hS (fun r v2 H locs hu4 hW hS => ?_)
  obtain ⟨hu5, hu6⟩ := hu4
  have hm0 : At D (b 0) (.inr (4, [.int (nI k9), .int (nI τ9.1.length), .ref (b 1), .int (nI τ9.2.1.length), .ref (b 2), .int (nI τ9.2.2.1.length), .ref (b 3), .ref (b 4), .ref (b 5), .ref (mI v2.1), .int (nI τ9.2.2.2.2.length), .ref (b 6)])) H := hW.1 0 _ rfl
  have hW := LW.mret hW
  have hMF := hu6.ofL
  have hXF := hXF.mk.more (Y' := v2.2 ++ (v.2.1 ++ O)) (fun q9 h9 => List.mem_append_right _ h9)
  have hW : Wd D s.heap.size (LW cs a b ol od (mkU v.1) τ9 v2.1 (nI k9) τ9 v.2.2 f2 (v2.2 ++ (v.2.1 ++ O))) H := hW
  refine lv_istore (lv' := [(7, .int r), (6, .int (nI k9)), (0, .ref b9), (1, .ref (a 0)), (2, .ref (b 0)), (3, .ref ol), (4, .ref od), (5, .int (nI (4 * j)))]) hx hb dL_law_996 hl (by decide) rfl (fun ls hl => ?_)
  refine lv_aload_n hx hb dL_law_998 rfl (lv_at hl 4 rfl) ?_
  refine z_csV (As := []) (rest := []) ⟨hx, hb, hml, hown, hts⟩ (c_X3_thrown l D cs (b 0) [.int (nI k9), .int (nI τ9.1.length), .ref (b 1), .int (nI τ9.2.1.length), .ref (b 2), .int (nI τ9.2.2.1.length), .ref (b 3), .ref (b 4), .ref (b 5), .ref (mI v2.1), .int (nI τ9.2.2.2.2.length), .ref (b 6)] (nI k9) rfl) (cwV 0 hts gL_law_X3_thrown rfl rfl rfl (by decide +kernel) ⟨Nat.le_of_ble_eq_true rfl, Nat.le_of_ble_eq_true rfl⟩) hm0 rfl hm0 hK rfl hl.1 rfl (Nat.le_of_ble_eq_true rfl) dL_law_999 ⟨by rw [hRc]; omega, by rw [hRs]; omega⟩ (fun r hq9 => ?_)
  have hq9 : r = nI k9 := hq9
  rw [hq9]
  refine lv_iload hx hb dL_law_1002 (lv_at hl 1 rfl) ?_
  refine z_icmp_eq (tgt := 1009) hx hb (by omega) (by omega) dL_law_1004 (by decide) (fun hc1004 => ?_) (fun hc1004 => ?_)
  · skip
    have hc1004 : k9 = k9 := hc1004
    refine lv_iload hx hb dL_law_1009 (lv_at hl 1 rfl) ?_
    refine z_ifn_ne (tgt := 1026) hx hb (by omega) dL_law_1011 (by decide) (fun hc1011 => ?_) (fun hc1011 => ?_)
    · skip
      have hc1011 : ¬ k9 = 0 := hc1011
      refine lv_goto (tgt := 1612) hx hb dL_law_1026 (by decide) ?_
      refine W.widen (k := cells + 6) (n := slots + 2007) (by omega) (by omega) ?_
      exact kk H locs ls ⟨τ9, (mkU v.1), v2.1, nI k9, v.2.2, f2, v2.2 ++ (v.2.1 ++ O), hW, hXF, hMF⟩ hS (lv_sub hl [2, 3, 4, 5, 6, 7] rfl)
    · skip
      have hc1011 : k9 = 0 := hc1011
      rw [hu5 hc1011] at hl
      have hl : lv_has ls 9 [(7, .int R9), (6, .int (nI k9)), (0, .ref b9), (1, .ref (a 0)), (2, .ref (b 0)), (3, .ref ol), (4, .ref od), (5, .int (nI (4 * j)))] := hl
      refine lv_aload_n hx hb dL_law_1014 rfl (lv_at hl 5 rfl) ?_
      refine lv_iconst (v := nI 0) hx hb dL_law_1015 (by decide) ?_
      refine va_lald hx hb hK hW.1 0 3 rfl rfl (vp_in_nI (by decide) (by decide)) dL_law_1016 ?_
      rw [show (nI 0).toNatClampNeg = 0 by decide, hu2 hc1011]
      refine lv_iload hx hb dL_law_1017 (lv_at hl 0 rfl) ?_
      refine lv_i2l (v := R9.toInt64) hx hb dL_law_1019 rfl ?_
      refine W.lcmp hx hb dL_law_1020 ?_
      refine zti (lg_sameN _) (y := nI 0) ?_
      refine lv_if_eq (tgt := 1026) hx hb dL_law_1021 (by decide) (fun _ => ?_) (fun h9 => absurd (by decide) h9)
      refine lv_goto (tgt := 1612) hx hb dL_law_1026 (by decide) ?_
      refine W.widen (k := cells + 6) (n := slots + 2007) (by omega) (by omega) ?_
      exact kk H locs ls ⟨τ9, (mkU v.1), v2.1, nI k9, v.2.2, f2, v2.2 ++ (v.2.1 ++ O), hW, hXF, hMF⟩ hS (lv_sub hl [2, 3, 4, 5, 6, 7] rfl)
  · skip
    have hc1004 : ¬ k9 = k9 := hc1004
    exact absurd rfl hc1004

set_option maxHeartbeats 4000000 in
set_option maxRecDepth 100000 in
theorem law_14 {p : Program} {l : Launch} {e : Env} {s : State} {m : MethodId} {below : List Frame} {meth : Method} {c : Code} {b9 L : Nat} {xs : Nat → Int32} (hfl : l.stackTraces = false) (hL : L ≤ 2048) (C0 : lw_At p s m meth c b9 L xs) {D : va_G} {cs : Nat → ClassId} {ea mi : Nat} {sa : Nat → Nat} (E0 : lw_E D cs ea mi sa s) {a b : Nat → Nat} {ol od j cells slots : Nat} {H : Heap} {locs : List Loc} {ls : Array Slot} (hj : 4 * j + 4 ≤ L) (hcl : cells + 6 ≤ 601024) (hsl : slots + 2007 ≤ 7293034) (hI : lw_I D cs s.heap.size ea a b ol od H) (hS : va_S (SA s.heap.size) s.heap H locs) (hl : lv_has ls 9 [(0, .ref b9), (1, .ref (a 0)), (2, .ref (b 0)), (3, .ref ol), (4, .ref od), (5, .int (nI (4 * j)))])
    (kk : ∀ (H : Heap) (locs : List Loc) (ls : Array Slot), lw_I D cs s.heap.size ea a b ol od H → va_S (SA s.heap.size) s.heap H locs → lv_has ls 9 [(0, .ref b9), (1, .ref (a 0)), (2, .ref (b 0)), (3, .ref ol), (4, .ref od), (5, .int (nI (4 * j)))] → W p l e room_1 s m #[Value.ref b9] below meth c H locs (cells + 6) (slots + 2007) (lw_Z below #[Value.ref b9] s) (F0 m 1612 ls [])) : W p l e room_1 s m #[Value.ref b9] below meth c H locs cells slots (lw_Z below #[Value.ref b9] s) (F0 m 1029 ls []) := by
  obtain ⟨hx, hb, hr, hml, hown, hts0, hX, hbl, hlocks, hgv⟩ := C0
  obtain ⟨hK, hE, hN, hA9⟩ := E0
  obtain ⟨σ, u, w, th, f1, f2, O, hW, hXF, hMF⟩ := hI
  have hb : c.code = cL_law := hb
  have hown : s.vm.findClass RL = some m.cls := hown
  have hts : ∀ w ∈ wsL_law, w.before #[Value.ref b9] s = true := fun w h => hts0 w (wsL_law_in w h)
  have hok := hXF.2.2.2.2.2.2.2.2
  have hn1 := hok.2.1.1
  have hn2 := hok.2.2.1.1
  have hn3 := hok.2.2.2.1.1
  have hRc : room_1.cells = 601024 := rfl
  have hRs : room_1.slots = 7293034 := rfl
  refine lv_aload_n hx hb dL_law_1029 rfl (lv_at hl 1 rfl) ?_
  refine lv_aload_n hx hb dL_law_1030 rfl (lv_at hl 0 rfl) ?_
  refine lv_iload hx hb dL_law_1031 (lv_at hl 5 rfl) ?_
  refine lv_iconst (v := nI 1) hx hb dL_law_1033 (by decide) ?_
  refine lv_iadd hx hb dL_law_1034 ?_
  refine zti (nI_add _ _) (y := nI (4 * j + 1)) ?_
  refine z_sld (k := (4 * j + 1)) hx hb hX hbl hS (by omega) hL dL_law_1035 ?_
  refine lv_aload_n hx hb dL_law_1036 rfl (lv_at hl 3 rfl) ?_
  obtain ⟨k9, R9, τ9, hk9, hc1, hc2⟩ := bo_cost l hfl σ hXF.2.2.2.2.2.2.2.2 (xs (4 * j + 1))
  have hW1 := LW.cls hW
  refine z_cmI (vx_runSW (As := [.ref (a 0), .int (xs (4 * j + 1)), .ref ol]) (rest := []) ⟨hx, hb, hml, hown, hts⟩ (hc1 D cs s.heap.size ea mi sa _ a u ol f1 (hXF.toL (b := b) (w := mkW w) (th := th) (σm := σ) (od := od) (f2 := f2))) (vx_cwSW 3 hts gL_law_L_cost rfl rfl rfl (by decide +kernel) ⟨Nat.le_of_ble_eq_true rfl, Nat.le_of_ble_eq_true rfl⟩) ⟨zN_blind, zN_pre hW1 hK hE hN hS⟩ rfl rfl hl.1 rfl (lv_room (Nat.le_of_ble_eq_true rfl)) dL_law_1037 ⟨by rw [hRc]; omega, by rw [hRs]; omega⟩) hS (fun r v H locs hu hW hS => ?_)
  obtain ⟨hu1, hu2, hu3⟩ := hu
  rw [hu1]
  have hW := LW.ret hW
  have hXF := hu3.ofL
  have hMF := (hMF.mk).more (Z' := v.2.1 ++ O) (fun q9 h9 => List.mem_append_right _ h9)
  have hW : Wd D s.heap.size (LW cs a b ol od v.1 τ9 (mkW w) th σ v.2.2 f2 (v.2.1 ++ O)) H := hW
  refine lv_istore (lv' := [(6, .int (nI k9)), (0, .ref b9), (1, .ref (a 0)), (2, .ref (b 0)), (3, .ref ol), (4, .ref od), (5, .int (nI (4 * j)))]) hx hb dL_law_1040 hl (by decide) rfl (fun ls hl => ?_)
  refine lv_aload_n hx hb dL_law_1042 rfl (lv_at hl 3 rfl) ?_
  refine lv_aload_n hx hb dL_law_1043 rfl (lv_at hl 1 rfl) ?_
  refine lv_iload hx hb dL_law_1044 (lv_at hl 6 rfl) ?_
  refine lv_iconst (v := nI 1) hx hb dL_law_1046 (by decide) ?_
  refine lv_iadd hx hb dL_law_1047 ?_
  refine zti (nI_add _ _) (y := nI (4 * j + 1)) ?_
  refine z_sld (k := (4 * j + 1)) hx hb hX hbl hS (by omega) hL dL_law_1048 ?_
  have hW1 := LW.mdl hW
  refine z_cmI (va_runV (As := [.int (xs (4 * j + 1))]) (rest := []) ⟨hx, hb, hml, hown, hts⟩ (hc2 D cs s.heap.size _ b (mkW w) th (hMF.toL (cs := cs) (a := a) (ol := ol) (od := od) (f1 := v.2.2) (f2 := f2) (u' := mkU v.1) (σc := τ9))) (cwV 1 hts gL_law_X3_cost rfl rfl rfl (by decide +kernel) ⟨Nat.le_of_ble_eq_true rfl, Nat.le_of_ble_eq_true rfl⟩) ⟨zM_blind, z_recv hK (hW1.1 0 _ rfl) rfl, zM_pre hW1 hK hA9⟩ rfl rfl hl.1 rfl (lv_room (Nat.le_of_ble_eq_true rfl)) dL_law_1049 ⟨by rw [hRc]; omega, by rw [hRs]; omega⟩) hS (fun r v2 H locs hu4 hW hS => ?_)
  obtain ⟨hu5, hu6⟩ := hu4
  have hm0 : At D (b 0) (.inr (4, [.int (nI k9), .int (nI τ9.1.length), .ref (b 1), .int (nI τ9.2.1.length), .ref (b 2), .int (nI τ9.2.2.1.length), .ref (b 3), .ref (b 4), .ref (b 5), .ref (mI v2.1), .int (nI τ9.2.2.2.2.length), .ref (b 6)])) H := hW.1 0 _ rfl
  have hW := LW.mret hW
  have hMF := hu6.ofL
  have hXF := hXF.mk.more (Y' := v2.2 ++ (v.2.1 ++ O)) (fun q9 h9 => List.mem_append_right _ h9)
  have hW : Wd D s.heap.size (LW cs a b ol od (mkU v.1) τ9 v2.1 (nI k9) τ9 v.2.2 f2 (v2.2 ++ (v.2.1 ++ O))) H := hW
  refine lv_istore (lv' := [(7, .int r), (6, .int (nI k9)), (0, .ref b9), (1, .ref (a 0)), (2, .ref (b 0)), (3, .ref ol), (4, .ref od), (5, .int (nI (4 * j)))]) hx hb dL_law_1052 hl (by decide) rfl (fun ls hl => ?_)
  refine lv_aload_n hx hb dL_law_1054 rfl (lv_at hl 4 rfl) ?_
  refine z_csV (As := []) (rest := []) ⟨hx, hb, hml, hown, hts⟩ (c_X3_thrown l D cs (b 0) [.int (nI k9), .int (nI τ9.1.length), .ref (b 1), .int (nI τ9.2.1.length), .ref (b 2), .int (nI τ9.2.2.1.length), .ref (b 3), .ref (b 4), .ref (b 5), .ref (mI v2.1), .int (nI τ9.2.2.2.2.length), .ref (b 6)] (nI k9) rfl) (cwV 0 hts gL_law_X3_thrown rfl rfl rfl (by decide +kernel) ⟨Nat.le_of_ble_eq_true rfl, Nat.le_of_ble_eq_true rfl⟩) hm0 rfl hm0 hK rfl hl.1 rfl (Nat.le_of_ble_eq_true rfl) dL_law_1055 ⟨by rw [hRc]; omega, by rw [hRs]; omega⟩ (fun r hq9 => ?_)
  have hq9 : r = nI k9 := hq9
  rw [hq9]
  refine lv_iload hx hb dL_law_1058 (lv_at hl 1 rfl) ?_
  refine z_icmp_eq (tgt := 1065) hx hb (by omega) (by omega) dL_law_1060 (by decide) (fun hc1060 => ?_) (fun hc1060 => ?_)
  · skip
    have hc1060 : k9 = k9 := hc1060
    refine lv_iload hx hb dL_law_1065 (lv_at hl 1 rfl) ?_
    refine z_ifn_ne (tgt := 1082) hx hb (by omega) dL_law_1067 (by decide) (fun hc1067 => ?_) (fun hc1067 => ?_)
    · skip
      have hc1067 : ¬ k9 = 0 := hc1067
      refine lv_goto (tgt := 1612) hx hb dL_law_1082 (by decide) ?_
      refine W.widen (k := cells + 6) (n := slots + 2007) (by omega) (by omega) ?_
      exact kk H locs ls ⟨τ9, (mkU v.1), v2.1, nI k9, v.2.2, f2, v2.2 ++ (v.2.1 ++ O), hW, hXF, hMF⟩ hS (lv_sub hl [2, 3, 4, 5, 6, 7] rfl)
    · skip
      have hc1067 : k9 = 0 := hc1067
      rw [hu5 hc1067] at hl
      have hl : lv_has ls 9 [(7, .int R9), (6, .int (nI k9)), (0, .ref b9), (1, .ref (a 0)), (2, .ref (b 0)), (3, .ref ol), (4, .ref od), (5, .int (nI (4 * j)))] := hl
      refine lv_aload_n hx hb dL_law_1070 rfl (lv_at hl 5 rfl) ?_
      refine lv_iconst (v := nI 0) hx hb dL_law_1071 (by decide) ?_
      refine va_lald hx hb hK hW.1 0 3 rfl rfl (vp_in_nI (by decide) (by decide)) dL_law_1072 ?_
      rw [show (nI 0).toNatClampNeg = 0 by decide, hu2 hc1067]
      refine lv_iload hx hb dL_law_1073 (lv_at hl 0 rfl) ?_
      refine lv_i2l (v := R9.toInt64) hx hb dL_law_1075 rfl ?_
      refine W.lcmp hx hb dL_law_1076 ?_
      refine zti (lg_sameN _) (y := nI 0) ?_
      refine lv_if_eq (tgt := 1082) hx hb dL_law_1077 (by decide) (fun _ => ?_) (fun h9 => absurd (by decide) h9)
      refine lv_goto (tgt := 1612) hx hb dL_law_1082 (by decide) ?_
      refine W.widen (k := cells + 6) (n := slots + 2007) (by omega) (by omega) ?_
      exact kk H locs ls ⟨τ9, (mkU v.1), v2.1, nI k9, v.2.2, f2, v2.2 ++ (v.2.1 ++ O), hW, hXF, hMF⟩ hS (lv_sub hl [2, 3, 4, 5, 6, 7] rfl)
  · skip
    have hc1060 : ¬ k9 = k9 := hc1060
    exact absurd rfl hc1060

set_option maxHeartbeats 4000000 in
set_option maxRecDepth 100000 in
theorem law_15 {p : Program} {l : Launch} {e : Env} {s : State} {m : MethodId} {below : List Frame} {meth : Method} {c : Code} {b9 L : Nat} {xs : Nat → Int32} (hfl : l.stackTraces = false) (hL : L ≤ 2048) (C0 : lw_At p s m meth c b9 L xs) {D : va_G} {cs : Nat → ClassId} {ea mi : Nat} {sa : Nat → Nat} (E0 : lw_E D cs ea mi sa s) {a b : Nat → Nat} {ol od j cells slots : Nat} {H : Heap} {locs : List Loc} {ls : Array Slot} (hj : 4 * j + 4 ≤ L) (hcl : cells + 6 ≤ 601024) (hsl : slots + 2007 ≤ 7293034) (hI : lw_I D cs s.heap.size ea a b ol od H) (hS : va_S (SA s.heap.size) s.heap H locs) (hl : lv_has ls 9 [(0, .ref b9), (1, .ref (a 0)), (2, .ref (b 0)), (3, .ref ol), (4, .ref od), (5, .int (nI (4 * j)))])
    (kk : ∀ (H : Heap) (locs : List Loc) (ls : Array Slot), lw_I D cs s.heap.size ea a b ol od H → va_S (SA s.heap.size) s.heap H locs → lv_has ls 9 [(0, .ref b9), (1, .ref (a 0)), (2, .ref (b 0)), (3, .ref ol), (4, .ref od), (5, .int (nI (4 * j)))] → W p l e room_1 s m #[Value.ref b9] below meth c H locs (cells + 6) (slots + 2007) (lw_Z below #[Value.ref b9] s) (F0 m 1612 ls [])) : W p l e room_1 s m #[Value.ref b9] below meth c H locs cells slots (lw_Z below #[Value.ref b9] s) (F0 m 1085 ls []) := by
  obtain ⟨hx, hb, hr, hml, hown, hts0, hX, hbl, hlocks, hgv⟩ := C0
  obtain ⟨hK, hE, hN, hA9⟩ := E0
  obtain ⟨σ, u, w, th, f1, f2, O, hW, hXF, hMF⟩ := hI
  have hb : c.code = cL_law := hb
  have hown : s.vm.findClass RL = some m.cls := hown
  have hts : ∀ w ∈ wsL_law, w.before #[Value.ref b9] s = true := fun w h => hts0 w (wsL_law_in w h)
  have hok := hXF.2.2.2.2.2.2.2.2
  have hn1 := hok.2.1.1
  have hn2 := hok.2.2.1.1
  have hn3 := hok.2.2.2.1.1
  have hRc : room_1.cells = 601024 := rfl
  have hRs : room_1.slots = 7293034 := rfl
  refine lv_aload_n hx hb dL_law_1085 rfl (lv_at hl 1 rfl) ?_
  refine lv_aload_n hx hb dL_law_1086 rfl (lv_at hl 0 rfl) ?_
  refine lv_iload hx hb dL_law_1087 (lv_at hl 5 rfl) ?_
  refine lv_iconst (v := nI 1) hx hb dL_law_1089 (by decide) ?_
  refine lv_iadd hx hb dL_law_1090 ?_
  refine zti (nI_add _ _) (y := nI (4 * j + 1)) ?_
  refine z_sld (k := (4 * j + 1)) hx hb hX hbl hS (by omega) hL dL_law_1091 ?_
  refine lv_aload hx hb dL_law_1092 (lv_at hl 4 rfl) ?_
  obtain ⟨k9, R9, τ9, hk9, hc1, hc2⟩ := bo_newness l hfl σ hXF.2.2.2.2.2.2.2.2 (xs (4 * j + 1))
  have hW1 := LW.clsD hW
  refine z_cmI (vx_runSW (As := [.ref (a 0), .int (xs (4 * j + 1)), .ref od]) (rest := []) ⟨hx, hb, hml, hown, hts⟩ (hc1 D cs s.heap.size ea mi sa _ a u od f2 (hXF.toLD (b := b) (w := mkW w) (th := th) (σm := σ) (ol := ol) (f1 := f1))) (vx_cwSW 3 hts gL_law_L_newness rfl rfl rfl (by decide +kernel) ⟨Nat.le_of_ble_eq_true rfl, Nat.le_of_ble_eq_true rfl⟩) ⟨zN_blind, zN_pre hW1 hK hE hN hS⟩ rfl rfl hl.1 rfl (lv_room (Nat.le_of_ble_eq_true rfl)) dL_law_1094 ⟨by rw [hRc]; omega, by rw [hRs]; omega⟩) hS (fun r v H locs hu hW hS => ?_)
  obtain ⟨hu1, hu2, hu3⟩ := hu
  rw [hu1]
  have hW := LW.retD hW
  have hXF := hu3.ofLD
  have hMF := (hMF.mk).more (Z' := v.2.1 ++ O) (fun q9 h9 => List.mem_append_right _ h9)
  have hW : Wd D s.heap.size (LW cs a b ol od v.1 τ9 (mkW w) th σ f1 v.2.2 (v.2.1 ++ O)) H := hW
  refine lv_istore (lv' := [(6, .int (nI k9)), (0, .ref b9), (1, .ref (a 0)), (2, .ref (b 0)), (3, .ref ol), (4, .ref od), (5, .int (nI (4 * j)))]) hx hb dL_law_1097 hl (by decide) rfl (fun ls hl => ?_)
  refine lv_aload_n hx hb dL_law_1099 rfl (lv_at hl 3 rfl) ?_
  refine lv_aload_n hx hb dL_law_1100 rfl (lv_at hl 1 rfl) ?_
  refine lv_iload hx hb dL_law_1101 (lv_at hl 6 rfl) ?_
  refine lv_iconst (v := nI 1) hx hb dL_law_1103 (by decide) ?_
  refine lv_iadd hx hb dL_law_1104 ?_
  refine zti (nI_add _ _) (y := nI (4 * j + 1)) ?_
  refine z_sld (k := (4 * j + 1)) hx hb hX hbl hS (by omega) hL dL_law_1105 ?_
  have hW1 := LW.mdl hW
  refine z_cmD (va_runV (As := [.int (xs (4 * j + 1))]) (rest := []) ⟨hx, hb, hml, hown, hts⟩ (hc2 D cs s.heap.size _ b (mkW w) th (hMF.toL (cs := cs) (a := a) (ol := ol) (od := od) (f1 := f1) (f2 := v.2.2) (u' := mkU v.1) (σc := τ9))) (cwV 1 hts gL_law_X3_newness rfl rfl rfl (by decide +kernel) ⟨Nat.le_of_ble_eq_true rfl, Nat.le_of_ble_eq_true rfl⟩) ⟨zM_blind, z_recv hK (hW1.1 0 _ rfl) rfl, zM_pre hW1 hK hA9⟩ rfl rfl hl.1 rfl (lv_room (Nat.le_of_ble_eq_true rfl)) dL_law_1106 ⟨by rw [hRc]; omega, by rw [hRs]; omega⟩) hS (fun r v2 H locs hu4 hW hS => ?_)
  obtain ⟨hu5, hu6⟩ := hu4
  have hm0 : At D (b 0) (.inr (4, [.int (nI k9), .int (nI τ9.1.length), .ref (b 1), .int (nI τ9.2.1.length), .ref (b 2), .int (nI τ9.2.2.1.length), .ref (b 3), .ref (b 4), .ref (b 5), .ref (mI v2.1), .int (nI τ9.2.2.2.2.length), .ref (b 6)])) H := hW.1 0 _ rfl
  have hW := LW.mret hW
  have hMF := hu6.ofL
  have hXF := hXF.mk.more (Y' := v2.2 ++ (v.2.1 ++ O)) (fun q9 h9 => List.mem_append_right _ h9)
  have hW : Wd D s.heap.size (LW cs a b ol od (mkU v.1) τ9 v2.1 (nI k9) τ9 f1 v.2.2 (v2.2 ++ (v.2.1 ++ O))) H := hW
  refine lv_dstore (lv' := [(7, .double r), (6, .int (nI k9)), (0, .ref b9), (1, .ref (a 0)), (2, .ref (b 0)), (3, .ref ol), (4, .ref od), (5, .int (nI (4 * j)))]) hx hb dL_law_1109 hl (by decide) rfl (fun ls hl => ?_)
  refine lv_aload_n hx hb dL_law_1111 rfl (lv_at hl 4 rfl) ?_
  refine z_csV (As := []) (rest := []) ⟨hx, hb, hml, hown, hts⟩ (c_X3_thrown l D cs (b 0) [.int (nI k9), .int (nI τ9.1.length), .ref (b 1), .int (nI τ9.2.1.length), .ref (b 2), .int (nI τ9.2.2.1.length), .ref (b 3), .ref (b 4), .ref (b 5), .ref (mI v2.1), .int (nI τ9.2.2.2.2.length), .ref (b 6)] (nI k9) rfl) (cwV 0 hts gL_law_X3_thrown rfl rfl rfl (by decide +kernel) ⟨Nat.le_of_ble_eq_true rfl, Nat.le_of_ble_eq_true rfl⟩) hm0 rfl hm0 hK rfl hl.1 rfl (Nat.le_of_ble_eq_true rfl) dL_law_1112 ⟨by rw [hRc]; omega, by rw [hRs]; omega⟩ (fun r hq9 => ?_)
  have hq9 : r = nI k9 := hq9
  rw [hq9]
  refine lv_iload hx hb dL_law_1115 (lv_at hl 1 rfl) ?_
  refine z_icmp_eq (tgt := 1122) hx hb (by omega) (by omega) dL_law_1117 (by decide) (fun hc1117 => ?_) (fun hc1117 => ?_)
  · skip
    have hc1117 : k9 = k9 := hc1117
    refine lv_iload hx hb dL_law_1122 (lv_at hl 1 rfl) ?_
    refine z_ifn_ne (tgt := 1159) hx hb (by omega) dL_law_1124 (by decide) (fun hc1124 => ?_) (fun hc1124 => ?_)
    · skip
      have hc1124 : ¬ k9 = 0 := hc1124
      refine lv_goto (tgt := 1612) hx hb dL_law_1159 (by decide) ?_
      refine W.widen (k := cells + 6) (n := slots + 2007) (by omega) (by omega) ?_
      exact kk H locs ls ⟨τ9, (mkU v.1), v2.1, nI k9, f1, v.2.2, v2.2 ++ (v.2.1 ++ O), hW, hXF, hMF⟩ hS (lv_sub hl [2, 3, 4, 5, 6, 7] rfl)
    · skip
      have hc1124 : k9 = 0 := hc1124
      rw [hu5 hc1124] at hl
      have hl : lv_has ls 9 [(7, .double R9), (6, .int (nI k9)), (0, .ref b9), (1, .ref (a 0)), (2, .ref (b 0)), (3, .ref ol), (4, .ref od), (5, .int (nI (4 * j)))] := hl
      refine lv_aload hx hb dL_law_1127 (lv_at hl 6 rfl) ?_
      refine lv_iconst (v := nI 0) hx hb dL_law_1129 (by decide) ?_
      refine va_dald hx hb hK hW.1 1 4 rfl rfl (vp_in_nI (by decide) (by decide)) dL_law_1130 ?_
      rw [show (nI 0).toNatClampNeg = 0 by decide, hu2 hc1124]
      refine lv_dload hx hb dL_law_1131 (lv_at hl 0 rfl) ?_
      refine lv_dcmp hx hb dL_law_1133 ?_
      refine lv_if_eq (tgt := 1159) hx hb dL_law_1134 (by decide) (fun hc1134 => ?_) (fun hc1134 => ?_)
      · skip
        have hc1134 : (Op.cmpValue (FP.dcmp R9 R9) .l) = 0 := hc1134
        refine lv_goto (tgt := 1612) hx hb dL_law_1159 (by decide) ?_
        refine W.widen (k := cells + 6) (n := slots + 2007) (by omega) (by omega) ?_
        exact kk H locs ls ⟨τ9, (mkU v.1), v2.1, nI k9, f1, v.2.2, v2.2 ++ (v.2.1 ++ O), hW, hXF, hMF⟩ hS (lv_sub hl [2, 3, 4, 5, 6, 7] rfl)
      · skip
        have hc1134 : ¬ (Op.cmpValue (FP.dcmp R9 R9) .l) = 0 := hc1134
        refine lv_aload hx hb dL_law_1137 (lv_at hl 6 rfl) ?_
        refine lv_iconst (v := nI 0) hx hb dL_law_1139 (by decide) ?_
        refine va_dald hx hb hK hW.1 1 4 rfl rfl (vp_in_nI (by decide) (by decide)) dL_law_1140 ?_
        rw [show (nI 0).toNatClampNeg = 0 by decide, hu2 hc1124]
        refine lv_aload hx hb dL_law_1141 (lv_at hl 6 rfl) ?_
        refine lv_iconst (v := nI 0) hx hb dL_law_1143 (by decide) ?_
        refine va_dald hx hb hK hW.1 1 4 rfl rfl (vp_in_nI (by decide) (by decide)) dL_law_1144 ?_
        rw [show (nI 0).toNatClampNeg = 0 by decide, hu2 hc1124]
        refine lv_dcmp hx hb dL_law_1145 ?_
        refine lv_if_eq (tgt := 1157) hx hb dL_law_1146 (by decide) (fun hc1146 => ?_) (fun hc1146 => ?_)
        · skip
          have hc1146 : (Op.cmpValue (FP.dcmp R9 R9) .l) = 0 := hc1146
          exact absurd hc1146 hc1134
        · skip
          have hc1146 : ¬ (Op.cmpValue (FP.dcmp R9 R9) .l) = 0 := hc1146
          refine lv_dload hx hb dL_law_1149 (lv_at hl 0 rfl) ?_
          refine lv_dload hx hb dL_law_1151 (lv_at hl 0 rfl) ?_
          refine lv_dcmp hx hb dL_law_1153 ?_
          refine lv_if_ne (tgt := 1159) hx hb dL_law_1154 (by decide) (fun hc1154 => ?_) (fun hc1154 => ?_)
          · skip
            have hc1154 : ¬ (Op.cmpValue (FP.dcmp R9 R9) .l) = 0 := hc1154
            refine lv_goto (tgt := 1612) hx hb dL_law_1159 (by decide) ?_
            refine W.widen (k := cells + 6) (n := slots + 2007) (by omega) (by omega) ?_
            exact kk H locs ls ⟨τ9, (mkU v.1), v2.1, nI k9, f1, v.2.2, v2.2 ++ (v.2.1 ++ O), hW, hXF, hMF⟩ hS (lv_sub hl [2, 3, 4, 5, 6, 7] rfl)
          · skip
            have hc1154 : (Op.cmpValue (FP.dcmp R9 R9) .l) = 0 := hc1154
            exact absurd hc1154 hc1134
  · skip
    have hc1117 : ¬ k9 = k9 := hc1117
    exact absurd rfl hc1117

set_option maxHeartbeats 4000000 in
set_option maxRecDepth 100000 in
theorem law_16 {p : Program} {l : Launch} {e : Env} {s : State} {m : MethodId} {below : List Frame} {meth : Method} {c : Code} {b9 L : Nat} {xs : Nat → Int32} (hfl : l.stackTraces = false) (hL : L ≤ 2048) (C0 : lw_At p s m meth c b9 L xs) {D : va_G} {cs : Nat → ClassId} {ea mi : Nat} {sa : Nat → Nat} (E0 : lw_E D cs ea mi sa s) {a b : Nat → Nat} {ol od j cells slots : Nat} {H : Heap} {locs : List Loc} {ls : Array Slot} (hj : 4 * j + 4 ≤ L) (hcl : cells + 6 ≤ 601024) (hsl : slots + 2007 ≤ 7293034) (hI : lw_I D cs s.heap.size ea a b ol od H) (hS : va_S (SA s.heap.size) s.heap H locs) (hl : lv_has ls 9 [(0, .ref b9), (1, .ref (a 0)), (2, .ref (b 0)), (3, .ref ol), (4, .ref od), (5, .int (nI (4 * j)))])
    (kk : ∀ (H : Heap) (locs : List Loc) (ls : Array Slot), lw_I D cs s.heap.size ea a b ol od H → va_S (SA s.heap.size) s.heap H locs → lv_has ls 9 [(0, .ref b9), (1, .ref (a 0)), (2, .ref (b 0)), (3, .ref ol), (4, .ref od), (5, .int (nI (4 * j)))] → W p l e room_1 s m #[Value.ref b9] below meth c H locs (cells + 6) (slots + 2007) (lw_Z below #[Value.ref b9] s) (F0 m 1612 ls [])) : W p l e room_1 s m #[Value.ref b9] below meth c H locs cells slots (lw_Z below #[Value.ref b9] s) (F0 m 1162 ls []) := by
  obtain ⟨hx, hb, hr, hml, hown, hts0, hX, hbl, hlocks, hgv⟩ := C0
  obtain ⟨hK, hE, hN, hA9⟩ := E0
  obtain ⟨σ, u, w, th, f1, f2, O, hW, hXF, hMF⟩ := hI
  have hb : c.code = cL_law := hb
  have hown : s.vm.findClass RL = some m.cls := hown
  have hts : ∀ w ∈ wsL_law, w.before #[Value.ref b9] s = true := fun w h => hts0 w (wsL_law_in w h)
  have hok := hXF.2.2.2.2.2.2.2.2
  have hn1 := hok.2.1.1
  have hn2 := hok.2.2.1.1
  have hn3 := hok.2.2.2.1.1
  have hRc : room_1.cells = 601024 := rfl
  have hRs : room_1.slots = 7293034 := rfl
  refine lv_aload_n hx hb dL_law_1162 rfl (lv_at hl 1 rfl) ?_
  refine lv_aload_n hx hb dL_law_1163 rfl (lv_at hl 0 rfl) ?_
  refine lv_iload hx hb dL_law_1164 (lv_at hl 5 rfl) ?_
  refine lv_iconst (v := nI 1) hx hb dL_law_1166 (by decide) ?_
  refine lv_iadd hx hb dL_law_1167 ?_
  refine zti (nI_add _ _) (y := nI (4 * j + 1)) ?_
  refine z_sld (k := (4 * j + 1)) hx hb hX hbl hS (by omega) hL dL_law_1168 ?_
  refine lv_aload_n hx hb dL_law_1169 rfl (lv_at hl 0 rfl) ?_
  refine lv_iload hx hb dL_law_1170 (lv_at hl 5 rfl) ?_
  refine lv_iconst (v := nI 2) hx hb dL_law_1172 (by decide) ?_
  refine lv_iadd hx hb dL_law_1173 ?_
  refine zti (nI_add _ _) (y := nI (4 * j + 2)) ?_
  refine z_sld (k := (4 * j + 2)) hx hb hX hbl hS (by omega) hL dL_law_1174 ?_
  refine lv_aload_n hx hb dL_law_1175 rfl (lv_at hl 3 rfl) ?_
  obtain ⟨k9, R9, τ9, hk9, hc1, hc2⟩ := bo_apply l hfl σ hXF.2.2.2.2.2.2.2.2 (xs (4 * j + 1)) (xs (4 * j + 2))
  have hW1 := LW.cls hW
  refine z_cmI (vx_runSW (As := [.ref (a 0), .int (xs (4 * j + 1)), .int (xs (4 * j + 2)), .ref ol]) (rest := []) ⟨hx, hb, hml, hown, hts⟩ (hc1 D cs s.heap.size ea mi sa _ a u ol f1 (hXF.toL (b := b) (w := mkW w) (th := th) (σm := σ) (od := od) (f2 := f2))) (vx_cwSW 4 hts gL_law_L_apply rfl rfl rfl (by decide +kernel) ⟨Nat.le_of_ble_eq_true rfl, Nat.le_of_ble_eq_true rfl⟩) ⟨zN_blind, zN_pre hW1 hK hE hN hS⟩ rfl rfl hl.1 rfl (lv_room (Nat.le_of_ble_eq_true rfl)) dL_law_1176 ⟨by rw [hRc]; omega, by rw [hRs]; omega⟩) hS (fun r v H locs hu hW hS => ?_)
  obtain ⟨hu1, hu2, hu3⟩ := hu
  rw [hu1]
  have hW := LW.ret hW
  have hXF := hu3.ofL
  have hMF := (hMF.mk).more (Z' := v.2.1 ++ O) (fun q9 h9 => List.mem_append_right _ h9)
  have hW : Wd D s.heap.size (LW cs a b ol od v.1 τ9 (mkW w) th σ v.2.2 f2 (v.2.1 ++ O)) H := hW
  refine lv_istore (lv' := [(6, .int (nI k9)), (0, .ref b9), (1, .ref (a 0)), (2, .ref (b 0)), (3, .ref ol), (4, .ref od), (5, .int (nI (4 * j)))]) hx hb dL_law_1179 hl (by decide) rfl (fun ls hl => ?_)
  refine lv_aload_n hx hb dL_law_1181 rfl (lv_at hl 3 rfl) ?_
  refine lv_aload_n hx hb dL_law_1182 rfl (lv_at hl 1 rfl) ?_
  refine lv_iload hx hb dL_law_1183 (lv_at hl 6 rfl) ?_
  refine lv_iconst (v := nI 1) hx hb dL_law_1185 (by decide) ?_
  refine lv_iadd hx hb dL_law_1186 ?_
  refine zti (nI_add _ _) (y := nI (4 * j + 1)) ?_
  refine z_sld (k := (4 * j + 1)) hx hb hX hbl hS (by omega) hL dL_law_1187 ?_
  refine lv_aload_n hx hb dL_law_1188 rfl (lv_at hl 1 rfl) ?_
  refine lv_iload hx hb dL_law_1189 (lv_at hl 6 rfl) ?_
  refine lv_iconst (v := nI 2) hx hb dL_law_1191 (by decide) ?_
  refine lv_iadd hx hb dL_law_1192 ?_
  refine zti (nI_add _ _) (y := nI (4 * j + 2)) ?_
  refine z_sld (k := (4 * j + 2)) hx hb hX hbl hS (by omega) hL dL_law_1193 ?_
  have hW1 := LW.mdl hW
  refine z_cmI (va_runV (As := [.int (xs (4 * j + 1)), .int (xs (4 * j + 2))]) (rest := []) ⟨hx, hb, hml, hown, hts⟩ (hc2 D cs s.heap.size _ b (mkW w) th (hMF.toL (cs := cs) (a := a) (ol := ol) (od := od) (f1 := v.2.2) (f2 := f2) (u' := mkU v.1) (σc := τ9))) (cwV 2 hts gL_law_X3_apply rfl rfl rfl (by decide +kernel) ⟨Nat.le_of_ble_eq_true rfl, Nat.le_of_ble_eq_true rfl⟩) ⟨zM_blind, z_recv hK (hW1.1 0 _ rfl) rfl, zM_pre hW1 hK hA9⟩ rfl rfl hl.1 rfl (lv_room (Nat.le_of_ble_eq_true rfl)) dL_law_1194 ⟨by rw [hRc]; omega, by rw [hRs]; omega⟩) hS (fun r v2 H locs hu4 hW hS => ?_)
  obtain ⟨hu5, hu6⟩ := hu4
  have hm0 : At D (b 0) (.inr (4, [.int (nI k9), .int (nI τ9.1.length), .ref (b 1), .int (nI τ9.2.1.length), .ref (b 2), .int (nI τ9.2.2.1.length), .ref (b 3), .ref (b 4), .ref (b 5), .ref (mI v2.1), .int (nI τ9.2.2.2.2.length), .ref (b 6)])) H := hW.1 0 _ rfl
  have hW := LW.mret hW
  have hMF := hu6.ofL
  have hXF := hXF.mk.more (Y' := v2.2 ++ (v.2.1 ++ O)) (fun q9 h9 => List.mem_append_right _ h9)
  have hW : Wd D s.heap.size (LW cs a b ol od (mkU v.1) τ9 v2.1 (nI k9) τ9 v.2.2 f2 (v2.2 ++ (v.2.1 ++ O))) H := hW
  refine lv_istore (lv' := [(7, .int r), (6, .int (nI k9)), (0, .ref b9), (1, .ref (a 0)), (2, .ref (b 0)), (3, .ref ol), (4, .ref od), (5, .int (nI (4 * j)))]) hx hb dL_law_1197 hl (by decide) rfl (fun ls hl => ?_)
  refine lv_aload_n hx hb dL_law_1199 rfl (lv_at hl 4 rfl) ?_
  refine z_csV (As := []) (rest := []) ⟨hx, hb, hml, hown, hts⟩ (c_X3_thrown l D cs (b 0) [.int (nI k9), .int (nI τ9.1.length), .ref (b 1), .int (nI τ9.2.1.length), .ref (b 2), .int (nI τ9.2.2.1.length), .ref (b 3), .ref (b 4), .ref (b 5), .ref (mI v2.1), .int (nI τ9.2.2.2.2.length), .ref (b 6)] (nI k9) rfl) (cwV 0 hts gL_law_X3_thrown rfl rfl rfl (by decide +kernel) ⟨Nat.le_of_ble_eq_true rfl, Nat.le_of_ble_eq_true rfl⟩) hm0 rfl hm0 hK rfl hl.1 rfl (Nat.le_of_ble_eq_true rfl) dL_law_1200 ⟨by rw [hRc]; omega, by rw [hRs]; omega⟩ (fun r hq9 => ?_)
  have hq9 : r = nI k9 := hq9
  rw [hq9]
  refine lv_iload hx hb dL_law_1203 (lv_at hl 1 rfl) ?_
  refine z_icmp_eq (tgt := 1210) hx hb (by omega) (by omega) dL_law_1205 (by decide) (fun hc1205 => ?_) (fun hc1205 => ?_)
  · skip
    have hc1205 : k9 = k9 := hc1205
    refine lv_iload hx hb dL_law_1210 (lv_at hl 1 rfl) ?_
    refine z_ifn_ne (tgt := 1227) hx hb (by omega) dL_law_1212 (by decide) (fun hc1212 => ?_) (fun hc1212 => ?_)
    · skip
      have hc1212 : ¬ k9 = 0 := hc1212
      refine lv_goto (tgt := 1612) hx hb dL_law_1227 (by decide) ?_
      refine W.widen (k := cells + 6) (n := slots + 2007) (by omega) (by omega) ?_
      exact kk H locs ls ⟨τ9, (mkU v.1), v2.1, nI k9, v.2.2, f2, v2.2 ++ (v.2.1 ++ O), hW, hXF, hMF⟩ hS (lv_sub hl [2, 3, 4, 5, 6, 7] rfl)
    · skip
      have hc1212 : k9 = 0 := hc1212
      rw [hu5 hc1212] at hl
      have hl : lv_has ls 9 [(7, .int R9), (6, .int (nI k9)), (0, .ref b9), (1, .ref (a 0)), (2, .ref (b 0)), (3, .ref ol), (4, .ref od), (5, .int (nI (4 * j)))] := hl
      refine lv_aload_n hx hb dL_law_1215 rfl (lv_at hl 5 rfl) ?_
      refine lv_iconst (v := nI 0) hx hb dL_law_1216 (by decide) ?_
      refine va_lald hx hb hK hW.1 0 3 rfl rfl (vp_in_nI (by decide) (by decide)) dL_law_1217 ?_
      rw [show (nI 0).toNatClampNeg = 0 by decide, hu2 hc1212]
      refine lv_iload hx hb dL_law_1218 (lv_at hl 0 rfl) ?_
      refine lv_i2l (v := R9.toInt64) hx hb dL_law_1220 rfl ?_
      refine W.lcmp hx hb dL_law_1221 ?_
      refine zti (lg_sameN _) (y := nI 0) ?_
      refine lv_if_eq (tgt := 1227) hx hb dL_law_1222 (by decide) (fun _ => ?_) (fun h9 => absurd (by decide) h9)
      refine lv_goto (tgt := 1612) hx hb dL_law_1227 (by decide) ?_
      refine W.widen (k := cells + 6) (n := slots + 2007) (by omega) (by omega) ?_
      exact kk H locs ls ⟨τ9, (mkU v.1), v2.1, nI k9, v.2.2, f2, v2.2 ++ (v.2.1 ++ O), hW, hXF, hMF⟩ hS (lv_sub hl [2, 3, 4, 5, 6, 7] rfl)
  · skip
    have hc1205 : ¬ k9 = k9 := hc1205
    exact absurd rfl hc1205

set_option maxHeartbeats 4000000 in
set_option maxRecDepth 100000 in
theorem law_17 {p : Program} {l : Launch} {e : Env} {s : State} {m : MethodId} {below : List Frame} {meth : Method} {c : Code} {b9 L : Nat} {xs : Nat → Int32} (hfl : l.stackTraces = false) (hL : L ≤ 2048) (C0 : lw_At p s m meth c b9 L xs) {D : va_G} {cs : Nat → ClassId} {ea mi : Nat} {sa : Nat → Nat} (E0 : lw_E D cs ea mi sa s) {a b : Nat → Nat} {ol od j cells slots : Nat} {H : Heap} {locs : List Loc} {ls : Array Slot} (hj : 4 * j + 4 ≤ L) (hcl : cells + 6 ≤ 601024) (hsl : slots + 2007 ≤ 7293034) (hI : lw_I D cs s.heap.size ea a b ol od H) (hS : va_S (SA s.heap.size) s.heap H locs) (hl : lv_has ls 9 [(0, .ref b9), (1, .ref (a 0)), (2, .ref (b 0)), (3, .ref ol), (4, .ref od), (5, .int (nI (4 * j)))])
    (kk : ∀ (H : Heap) (locs : List Loc) (ls : Array Slot), lw_I D cs s.heap.size ea a b ol od H → va_S (SA s.heap.size) s.heap H locs → lv_has ls 9 [(0, .ref b9), (1, .ref (a 0)), (2, .ref (b 0)), (3, .ref ol), (4, .ref od), (5, .int (nI (4 * j)))] → W p l e room_1 s m #[Value.ref b9] below meth c H locs (cells + 6) (slots + 2007) (lw_Z below #[Value.ref b9] s) (F0 m 1612 ls [])) : W p l e room_1 s m #[Value.ref b9] below meth c H locs cells slots (lw_Z below #[Value.ref b9] s) (F0 m 1230 ls []) := by
  obtain ⟨hx, hb, hr, hml, hown, hts0, hX, hbl, hlocks, hgv⟩ := C0
  obtain ⟨hK, hE, hN, hA9⟩ := E0
  obtain ⟨σ, u, w, th, f1, f2, O, hW, hXF, hMF⟩ := hI
  have hb : c.code = cL_law := hb
  have hown : s.vm.findClass RL = some m.cls := hown
  have hts : ∀ w ∈ wsL_law, w.before #[Value.ref b9] s = true := fun w h => hts0 w (wsL_law_in w h)
  have hok := hXF.2.2.2.2.2.2.2.2
  have hn1 := hok.2.1.1
  have hn2 := hok.2.2.1.1
  have hn3 := hok.2.2.2.1.1
  have hRc : room_1.cells = 601024 := rfl
  have hRs : room_1.slots = 7293034 := rfl
  refine lv_aload_n hx hb dL_law_1230 rfl (lv_at hl 1 rfl) ?_
  refine lv_aload_n hx hb dL_law_1231 rfl (lv_at hl 0 rfl) ?_
  refine lv_iload hx hb dL_law_1232 (lv_at hl 5 rfl) ?_
  refine lv_iconst (v := nI 1) hx hb dL_law_1234 (by decide) ?_
  refine lv_iadd hx hb dL_law_1235 ?_
  refine zti (nI_add _ _) (y := nI (4 * j + 1)) ?_
  refine z_sld (k := (4 * j + 1)) hx hb hX hbl hS (by omega) hL dL_law_1236 ?_
  refine lv_aload_n hx hb dL_law_1237 rfl (lv_at hl 0 rfl) ?_
  refine lv_iload hx hb dL_law_1238 (lv_at hl 5 rfl) ?_
  refine lv_iconst (v := nI 2) hx hb dL_law_1240 (by decide) ?_
  refine lv_iadd hx hb dL_law_1241 ?_
  refine zti (nI_add _ _) (y := nI (4 * j + 2)) ?_
  refine z_sld (k := (4 * j + 2)) hx hb hX hbl hS (by omega) hL dL_law_1242 ?_
  refine lv_aload_n hx hb dL_law_1243 rfl (lv_at hl 3 rfl) ?_
  obtain ⟨k9, R9, τ9, hk9, hc1, hc2⟩ := bo_steps l hfl σ hXF.2.2.2.2.2.2.2.2 (xs (4 * j + 1)) (xs (4 * j + 2))
  have hW1 := LW.cls hW
  refine z_cmI (vx_runSW (As := [.ref (a 0), .int (xs (4 * j + 1)), .int (xs (4 * j + 2)), .ref ol]) (rest := []) ⟨hx, hb, hml, hown, hts⟩ (hc1 D cs s.heap.size ea mi sa _ a u ol f1 (hXF.toL (b := b) (w := mkW w) (th := th) (σm := σ) (od := od) (f2 := f2))) (vx_cwSW 4 hts gL_law_L_steps rfl rfl rfl (by decide +kernel) ⟨Nat.le_of_ble_eq_true rfl, Nat.le_of_ble_eq_true rfl⟩) ⟨zN_blind, zN_pre hW1 hK hE hN hS⟩ rfl rfl hl.1 rfl (lv_room (Nat.le_of_ble_eq_true rfl)) dL_law_1244 ⟨by rw [hRc]; omega, by rw [hRs]; omega⟩) hS (fun r v H locs hu hW hS => ?_)
  obtain ⟨hu1, hu2, hu3⟩ := hu
  rw [hu1]
  have hW := LW.ret hW
  have hXF := hu3.ofL
  have hMF := (hMF.mk).more (Z' := v.2.1 ++ O) (fun q9 h9 => List.mem_append_right _ h9)
  have hW : Wd D s.heap.size (LW cs a b ol od v.1 τ9 (mkW w) th σ v.2.2 f2 (v.2.1 ++ O)) H := hW
  refine lv_istore (lv' := [(6, .int (nI k9)), (0, .ref b9), (1, .ref (a 0)), (2, .ref (b 0)), (3, .ref ol), (4, .ref od), (5, .int (nI (4 * j)))]) hx hb dL_law_1247 hl (by decide) rfl (fun ls hl => ?_)
  refine lv_aload_n hx hb dL_law_1249 rfl (lv_at hl 3 rfl) ?_
  refine lv_aload_n hx hb dL_law_1250 rfl (lv_at hl 1 rfl) ?_
  refine lv_iload hx hb dL_law_1251 (lv_at hl 6 rfl) ?_
  refine lv_iconst (v := nI 1) hx hb dL_law_1253 (by decide) ?_
  refine lv_iadd hx hb dL_law_1254 ?_
  refine zti (nI_add _ _) (y := nI (4 * j + 1)) ?_
  refine z_sld (k := (4 * j + 1)) hx hb hX hbl hS (by omega) hL dL_law_1255 ?_
  refine lv_aload_n hx hb dL_law_1256 rfl (lv_at hl 1 rfl) ?_
  refine lv_iload hx hb dL_law_1257 (lv_at hl 6 rfl) ?_
  refine lv_iconst (v := nI 2) hx hb dL_law_1259 (by decide) ?_
  refine lv_iadd hx hb dL_law_1260 ?_
  refine zti (nI_add _ _) (y := nI (4 * j + 2)) ?_
  refine z_sld (k := (4 * j + 2)) hx hb hX hbl hS (by omega) hL dL_law_1261 ?_
  have hW1 := LW.mdl hW
  refine z_cmI (va_runV (As := [.int (xs (4 * j + 1)), .int (xs (4 * j + 2))]) (rest := []) ⟨hx, hb, hml, hown, hts⟩ (hc2 D cs s.heap.size _ b (mkW w) th (hMF.toL (cs := cs) (a := a) (ol := ol) (od := od) (f1 := v.2.2) (f2 := f2) (u' := mkU v.1) (σc := τ9))) (cwV 2 hts gL_law_X3_steps rfl rfl rfl (by decide +kernel) ⟨Nat.le_of_ble_eq_true rfl, Nat.le_of_ble_eq_true rfl⟩) ⟨zM_blind, z_recv hK (hW1.1 0 _ rfl) rfl, zM_pre hW1 hK hA9⟩ rfl rfl hl.1 rfl (lv_room (Nat.le_of_ble_eq_true rfl)) dL_law_1262 ⟨by rw [hRc]; omega, by rw [hRs]; omega⟩) hS (fun r v2 H locs hu4 hW hS => ?_)
  obtain ⟨hu5, hu6⟩ := hu4
  have hm0 : At D (b 0) (.inr (4, [.int (nI k9), .int (nI τ9.1.length), .ref (b 1), .int (nI τ9.2.1.length), .ref (b 2), .int (nI τ9.2.2.1.length), .ref (b 3), .ref (b 4), .ref (b 5), .ref (mI v2.1), .int (nI τ9.2.2.2.2.length), .ref (b 6)])) H := hW.1 0 _ rfl
  have hW := LW.mret hW
  have hMF := hu6.ofL
  have hXF := hXF.mk.more (Y' := v2.2 ++ (v.2.1 ++ O)) (fun q9 h9 => List.mem_append_right _ h9)
  have hW : Wd D s.heap.size (LW cs a b ol od (mkU v.1) τ9 v2.1 (nI k9) τ9 v.2.2 f2 (v2.2 ++ (v.2.1 ++ O))) H := hW
  refine lv_istore (lv' := [(7, .int r), (6, .int (nI k9)), (0, .ref b9), (1, .ref (a 0)), (2, .ref (b 0)), (3, .ref ol), (4, .ref od), (5, .int (nI (4 * j)))]) hx hb dL_law_1265 hl (by decide) rfl (fun ls hl => ?_)
  refine lv_aload_n hx hb dL_law_1267 rfl (lv_at hl 4 rfl) ?_
  refine z_csV (As := []) (rest := []) ⟨hx, hb, hml, hown, hts⟩ (c_X3_thrown l D cs (b 0) [.int (nI k9), .int (nI τ9.1.length), .ref (b 1), .int (nI τ9.2.1.length), .ref (b 2), .int (nI τ9.2.2.1.length), .ref (b 3), .ref (b 4), .ref (b 5), .ref (mI v2.1), .int (nI τ9.2.2.2.2.length), .ref (b 6)] (nI k9) rfl) (cwV 0 hts gL_law_X3_thrown rfl rfl rfl (by decide +kernel) ⟨Nat.le_of_ble_eq_true rfl, Nat.le_of_ble_eq_true rfl⟩) hm0 rfl hm0 hK rfl hl.1 rfl (Nat.le_of_ble_eq_true rfl) dL_law_1268 ⟨by rw [hRc]; omega, by rw [hRs]; omega⟩ (fun r hq9 => ?_)
  have hq9 : r = nI k9 := hq9
  rw [hq9]
  refine lv_iload hx hb dL_law_1271 (lv_at hl 1 rfl) ?_
  refine z_icmp_eq (tgt := 1278) hx hb (by omega) (by omega) dL_law_1273 (by decide) (fun hc1273 => ?_) (fun hc1273 => ?_)
  · skip
    have hc1273 : k9 = k9 := hc1273
    refine lv_iload hx hb dL_law_1278 (lv_at hl 1 rfl) ?_
    refine z_ifn_ne (tgt := 1295) hx hb (by omega) dL_law_1280 (by decide) (fun hc1280 => ?_) (fun hc1280 => ?_)
    · skip
      have hc1280 : ¬ k9 = 0 := hc1280
      refine lv_goto (tgt := 1612) hx hb dL_law_1295 (by decide) ?_
      refine W.widen (k := cells + 6) (n := slots + 2007) (by omega) (by omega) ?_
      exact kk H locs ls ⟨τ9, (mkU v.1), v2.1, nI k9, v.2.2, f2, v2.2 ++ (v.2.1 ++ O), hW, hXF, hMF⟩ hS (lv_sub hl [2, 3, 4, 5, 6, 7] rfl)
    · skip
      have hc1280 : k9 = 0 := hc1280
      rw [hu5 hc1280] at hl
      have hl : lv_has ls 9 [(7, .int R9), (6, .int (nI k9)), (0, .ref b9), (1, .ref (a 0)), (2, .ref (b 0)), (3, .ref ol), (4, .ref od), (5, .int (nI (4 * j)))] := hl
      refine lv_aload_n hx hb dL_law_1283 rfl (lv_at hl 5 rfl) ?_
      refine lv_iconst (v := nI 0) hx hb dL_law_1284 (by decide) ?_
      refine va_lald hx hb hK hW.1 0 3 rfl rfl (vp_in_nI (by decide) (by decide)) dL_law_1285 ?_
      rw [show (nI 0).toNatClampNeg = 0 by decide, hu2 hc1280]
      refine lv_iload hx hb dL_law_1286 (lv_at hl 0 rfl) ?_
      refine lv_i2l (v := R9.toInt64) hx hb dL_law_1288 rfl ?_
      refine W.lcmp hx hb dL_law_1289 ?_
      refine zti (lg_sameN _) (y := nI 0) ?_
      refine lv_if_eq (tgt := 1295) hx hb dL_law_1290 (by decide) (fun _ => ?_) (fun h9 => absurd (by decide) h9)
      refine lv_goto (tgt := 1612) hx hb dL_law_1295 (by decide) ?_
      refine W.widen (k := cells + 6) (n := slots + 2007) (by omega) (by omega) ?_
      exact kk H locs ls ⟨τ9, (mkU v.1), v2.1, nI k9, v.2.2, f2, v2.2 ++ (v.2.1 ++ O), hW, hXF, hMF⟩ hS (lv_sub hl [2, 3, 4, 5, 6, 7] rfl)
  · skip
    have hc1273 : ¬ k9 = k9 := hc1273
    exact absurd rfl hc1273

set_option maxHeartbeats 4000000 in
set_option maxRecDepth 100000 in
theorem law_18 {p : Program} {l : Launch} {e : Env} {s : State} {m : MethodId} {below : List Frame} {meth : Method} {c : Code} {b9 L : Nat} {xs : Nat → Int32} (hfl : l.stackTraces = false) (hL : L ≤ 2048) (C0 : lw_At p s m meth c b9 L xs) {D : va_G} {cs : Nat → ClassId} {ea mi : Nat} {sa : Nat → Nat} (E0 : lw_E D cs ea mi sa s) {a b : Nat → Nat} {ol od j cells slots : Nat} {H : Heap} {locs : List Loc} {ls : Array Slot} (hj : 4 * j + 4 ≤ L) (hcl : cells + 6 ≤ 601024) (hsl : slots + 2007 ≤ 7293034) (hI : lw_I D cs s.heap.size ea a b ol od H) (hS : va_S (SA s.heap.size) s.heap H locs) (hl : lv_has ls 9 [(0, .ref b9), (1, .ref (a 0)), (2, .ref (b 0)), (3, .ref ol), (4, .ref od), (5, .int (nI (4 * j)))])
    (kk : ∀ (H : Heap) (locs : List Loc) (ls : Array Slot), lw_I D cs s.heap.size ea a b ol od H → va_S (SA s.heap.size) s.heap H locs → lv_has ls 9 [(0, .ref b9), (1, .ref (a 0)), (2, .ref (b 0)), (3, .ref ol), (4, .ref od), (5, .int (nI (4 * j)))] → W p l e room_1 s m #[Value.ref b9] below meth c H locs (cells + 6) (slots + 2007) (lw_Z below #[Value.ref b9] s) (F0 m 1612 ls [])) : W p l e room_1 s m #[Value.ref b9] below meth c H locs cells slots (lw_Z below #[Value.ref b9] s) (F0 m 1298 ls []) := by
  obtain ⟨hx, hb, hr, hml, hown, hts0, hX, hbl, hlocks, hgv⟩ := C0
  obtain ⟨hK, hE, hN, hA9⟩ := E0
  obtain ⟨σ, u, w, th, f1, f2, O, hW, hXF, hMF⟩ := hI
  have hb : c.code = cL_law := hb
  have hown : s.vm.findClass RL = some m.cls := hown
  have hts : ∀ w ∈ wsL_law, w.before #[Value.ref b9] s = true := fun w h => hts0 w (wsL_law_in w h)
  have hok := hXF.2.2.2.2.2.2.2.2
  have hn1 := hok.2.1.1
  have hn2 := hok.2.2.1.1
  have hn3 := hok.2.2.2.1.1
  have hRc : room_1.cells = 601024 := rfl
  have hRs : room_1.slots = 7293034 := rfl
  refine lv_aload_n hx hb dL_law_1298 rfl (lv_at hl 1 rfl) ?_
  refine lv_aload_n hx hb dL_law_1299 rfl (lv_at hl 0 rfl) ?_
  refine lv_iload hx hb dL_law_1300 (lv_at hl 5 rfl) ?_
  refine lv_iconst (v := nI 1) hx hb dL_law_1302 (by decide) ?_
  refine lv_iadd hx hb dL_law_1303 ?_
  refine zti (nI_add _ _) (y := nI (4 * j + 1)) ?_
  refine z_sld (k := (4 * j + 1)) hx hb hX hbl hS (by omega) hL dL_law_1304 ?_
  refine lv_aload_n hx hb dL_law_1305 rfl (lv_at hl 0 rfl) ?_
  refine lv_iload hx hb dL_law_1306 (lv_at hl 5 rfl) ?_
  refine lv_iconst (v := nI 2) hx hb dL_law_1308 (by decide) ?_
  refine lv_iadd hx hb dL_law_1309 ?_
  refine zti (nI_add _ _) (y := nI (4 * j + 2)) ?_
  refine z_sld (k := (4 * j + 2)) hx hb hX hbl hS (by omega) hL dL_law_1310 ?_
  refine lv_aload_n hx hb dL_law_1311 rfl (lv_at hl 3 rfl) ?_
  obtain ⟨k9, R9, τ9, hk9, hc1, hc2⟩ := bo_leastCost l hfl σ hXF.2.2.2.2.2.2.2.2 (xs (4 * j + 1)) (xs (4 * j + 2))
  have hW1 := LW.cls hW
  refine z_cmI (vx_runSW (As := [.ref (a 0), .int (xs (4 * j + 1)), .int (xs (4 * j + 2)), .ref ol]) (rest := []) ⟨hx, hb, hml, hown, hts⟩ (hc1 D cs s.heap.size ea mi sa _ a u ol f1 (hXF.toL (b := b) (w := mkW w) (th := th) (σm := σ) (od := od) (f2 := f2))) (vx_cwSW 4 hts gL_law_L_leastCost rfl rfl rfl (by decide +kernel) ⟨Nat.le_of_ble_eq_true rfl, Nat.le_of_ble_eq_true rfl⟩) ⟨zN_blind, zN_pre hW1 hK hE hN hS⟩ rfl rfl hl.1 rfl (lv_room (Nat.le_of_ble_eq_true rfl)) dL_law_1312 ⟨by rw [hRc]; omega, by rw [hRs]; omega⟩) hS (fun r v H locs hu hW hS => ?_)
  obtain ⟨hu1, hu2, hu3⟩ := hu
  rw [hu1]
  have hW := LW.ret hW
  have hXF := hu3.ofL
  have hMF := (hMF.mk).more (Z' := v.2.1 ++ O) (fun q9 h9 => List.mem_append_right _ h9)
  have hW : Wd D s.heap.size (LW cs a b ol od v.1 τ9 (mkW w) th σ v.2.2 f2 (v.2.1 ++ O)) H := hW
  refine lv_istore (lv' := [(6, .int (nI k9)), (0, .ref b9), (1, .ref (a 0)), (2, .ref (b 0)), (3, .ref ol), (4, .ref od), (5, .int (nI (4 * j)))]) hx hb dL_law_1315 hl (by decide) rfl (fun ls hl => ?_)
  refine lv_aload_n hx hb dL_law_1317 rfl (lv_at hl 3 rfl) ?_
  refine lv_aload_n hx hb dL_law_1318 rfl (lv_at hl 1 rfl) ?_
  refine lv_iload hx hb dL_law_1319 (lv_at hl 6 rfl) ?_
  refine lv_iconst (v := nI 1) hx hb dL_law_1321 (by decide) ?_
  refine lv_iadd hx hb dL_law_1322 ?_
  refine zti (nI_add _ _) (y := nI (4 * j + 1)) ?_
  refine z_sld (k := (4 * j + 1)) hx hb hX hbl hS (by omega) hL dL_law_1323 ?_
  refine lv_aload_n hx hb dL_law_1324 rfl (lv_at hl 1 rfl) ?_
  refine lv_iload hx hb dL_law_1325 (lv_at hl 6 rfl) ?_
  refine lv_iconst (v := nI 2) hx hb dL_law_1327 (by decide) ?_
  refine lv_iadd hx hb dL_law_1328 ?_
  refine zti (nI_add _ _) (y := nI (4 * j + 2)) ?_
  refine z_sld (k := (4 * j + 2)) hx hb hX hbl hS (by omega) hL dL_law_1329 ?_
  have hW1 := LW.mdl hW
  refine z_cmI (va_runV (As := [.int (xs (4 * j + 1)), .int (xs (4 * j + 2))]) (rest := []) ⟨hx, hb, hml, hown, hts⟩ (hc2 D cs s.heap.size _ b (mkW w) th (hMF.toL (cs := cs) (a := a) (ol := ol) (od := od) (f1 := v.2.2) (f2 := f2) (u' := mkU v.1) (σc := τ9))) (cwV 2 hts gL_law_X3_leastCost rfl rfl rfl (by decide +kernel) ⟨Nat.le_of_ble_eq_true rfl, Nat.le_of_ble_eq_true rfl⟩) ⟨zM_blind, z_recv hK (hW1.1 0 _ rfl) rfl, zM_pre hW1 hK hA9⟩ rfl rfl hl.1 rfl (lv_room (Nat.le_of_ble_eq_true rfl)) dL_law_1330 ⟨by rw [hRc]; omega, by rw [hRs]; omega⟩) hS (fun r v2 H locs hu4 hW hS => ?_)
  obtain ⟨hu5, hu6⟩ := hu4
  have hm0 : At D (b 0) (.inr (4, [.int (nI k9), .int (nI τ9.1.length), .ref (b 1), .int (nI τ9.2.1.length), .ref (b 2), .int (nI τ9.2.2.1.length), .ref (b 3), .ref (b 4), .ref (b 5), .ref (mI v2.1), .int (nI τ9.2.2.2.2.length), .ref (b 6)])) H := hW.1 0 _ rfl
  have hW := LW.mret hW
  have hMF := hu6.ofL
  have hXF := hXF.mk.more (Y' := v2.2 ++ (v.2.1 ++ O)) (fun q9 h9 => List.mem_append_right _ h9)
  have hW : Wd D s.heap.size (LW cs a b ol od (mkU v.1) τ9 v2.1 (nI k9) τ9 v.2.2 f2 (v2.2 ++ (v.2.1 ++ O))) H := hW
  refine lv_istore (lv' := [(7, .int r), (6, .int (nI k9)), (0, .ref b9), (1, .ref (a 0)), (2, .ref (b 0)), (3, .ref ol), (4, .ref od), (5, .int (nI (4 * j)))]) hx hb dL_law_1333 hl (by decide) rfl (fun ls hl => ?_)
  refine lv_aload_n hx hb dL_law_1335 rfl (lv_at hl 4 rfl) ?_
  refine z_csV (As := []) (rest := []) ⟨hx, hb, hml, hown, hts⟩ (c_X3_thrown l D cs (b 0) [.int (nI k9), .int (nI τ9.1.length), .ref (b 1), .int (nI τ9.2.1.length), .ref (b 2), .int (nI τ9.2.2.1.length), .ref (b 3), .ref (b 4), .ref (b 5), .ref (mI v2.1), .int (nI τ9.2.2.2.2.length), .ref (b 6)] (nI k9) rfl) (cwV 0 hts gL_law_X3_thrown rfl rfl rfl (by decide +kernel) ⟨Nat.le_of_ble_eq_true rfl, Nat.le_of_ble_eq_true rfl⟩) hm0 rfl hm0 hK rfl hl.1 rfl (Nat.le_of_ble_eq_true rfl) dL_law_1336 ⟨by rw [hRc]; omega, by rw [hRs]; omega⟩ (fun r hq9 => ?_)
  have hq9 : r = nI k9 := hq9
  rw [hq9]
  refine lv_iload hx hb dL_law_1339 (lv_at hl 1 rfl) ?_
  refine z_icmp_eq (tgt := 1346) hx hb (by omega) (by omega) dL_law_1341 (by decide) (fun hc1341 => ?_) (fun hc1341 => ?_)
  · skip
    have hc1341 : k9 = k9 := hc1341
    refine lv_iload hx hb dL_law_1346 (lv_at hl 1 rfl) ?_
    refine z_ifn_ne (tgt := 1363) hx hb (by omega) dL_law_1348 (by decide) (fun hc1348 => ?_) (fun hc1348 => ?_)
    · skip
      have hc1348 : ¬ k9 = 0 := hc1348
      refine lv_goto (tgt := 1612) hx hb dL_law_1363 (by decide) ?_
      refine W.widen (k := cells + 6) (n := slots + 2007) (by omega) (by omega) ?_
      exact kk H locs ls ⟨τ9, (mkU v.1), v2.1, nI k9, v.2.2, f2, v2.2 ++ (v.2.1 ++ O), hW, hXF, hMF⟩ hS (lv_sub hl [2, 3, 4, 5, 6, 7] rfl)
    · skip
      have hc1348 : k9 = 0 := hc1348
      rw [hu5 hc1348] at hl
      have hl : lv_has ls 9 [(7, .int R9), (6, .int (nI k9)), (0, .ref b9), (1, .ref (a 0)), (2, .ref (b 0)), (3, .ref ol), (4, .ref od), (5, .int (nI (4 * j)))] := hl
      refine lv_aload_n hx hb dL_law_1351 rfl (lv_at hl 5 rfl) ?_
      refine lv_iconst (v := nI 0) hx hb dL_law_1352 (by decide) ?_
      refine va_lald hx hb hK hW.1 0 3 rfl rfl (vp_in_nI (by decide) (by decide)) dL_law_1353 ?_
      rw [show (nI 0).toNatClampNeg = 0 by decide, hu2 hc1348]
      refine lv_iload hx hb dL_law_1354 (lv_at hl 0 rfl) ?_
      refine lv_i2l (v := R9.toInt64) hx hb dL_law_1356 rfl ?_
      refine W.lcmp hx hb dL_law_1357 ?_
      refine zti (lg_sameN _) (y := nI 0) ?_
      refine lv_if_eq (tgt := 1363) hx hb dL_law_1358 (by decide) (fun _ => ?_) (fun h9 => absurd (by decide) h9)
      refine lv_goto (tgt := 1612) hx hb dL_law_1363 (by decide) ?_
      refine W.widen (k := cells + 6) (n := slots + 2007) (by omega) (by omega) ?_
      exact kk H locs ls ⟨τ9, (mkU v.1), v2.1, nI k9, v.2.2, f2, v2.2 ++ (v.2.1 ++ O), hW, hXF, hMF⟩ hS (lv_sub hl [2, 3, 4, 5, 6, 7] rfl)
  · skip
    have hc1341 : ¬ k9 = k9 := hc1341
    exact absurd rfl hc1341

set_option maxHeartbeats 4000000 in
set_option maxRecDepth 100000 in
theorem law_19 {p : Program} {l : Launch} {e : Env} {s : State} {m : MethodId} {below : List Frame} {meth : Method} {c : Code} {b9 L : Nat} {xs : Nat → Int32} (hfl : l.stackTraces = false) (hL : L ≤ 2048) (C0 : lw_At p s m meth c b9 L xs) {D : va_G} {cs : Nat → ClassId} {ea mi : Nat} {sa : Nat → Nat} (E0 : lw_E D cs ea mi sa s) {a b : Nat → Nat} {ol od j cells slots : Nat} {H : Heap} {locs : List Loc} {ls : Array Slot} (hj : 4 * j + 4 ≤ L) (hcl : cells + 6 ≤ 601024) (hsl : slots + 2007 ≤ 7293034) (hI : lw_I D cs s.heap.size ea a b ol od H) (hS : va_S (SA s.heap.size) s.heap H locs) (hl : lv_has ls 9 [(0, .ref b9), (1, .ref (a 0)), (2, .ref (b 0)), (3, .ref ol), (4, .ref od), (5, .int (nI (4 * j)))])
    (kk : ∀ (H : Heap) (locs : List Loc) (ls : Array Slot), lw_I D cs s.heap.size ea a b ol od H → va_S (SA s.heap.size) s.heap H locs → lv_has ls 9 [(0, .ref b9), (1, .ref (a 0)), (2, .ref (b 0)), (3, .ref ol), (4, .ref od), (5, .int (nI (4 * j)))] → W p l e room_1 s m #[Value.ref b9] below meth c H locs (cells + 6) (slots + 2007) (lw_Z below #[Value.ref b9] s) (F0 m 1612 ls [])) : W p l e room_1 s m #[Value.ref b9] below meth c H locs cells slots (lw_Z below #[Value.ref b9] s) (F0 m 1366 ls []) := by
  obtain ⟨hx, hb, hr, hml, hown, hts0, hX, hbl, hlocks, hgv⟩ := C0
  obtain ⟨hK, hE, hN, hA9⟩ := E0
  obtain ⟨σ, u, w, th, f1, f2, O, hW, hXF, hMF⟩ := hI
  have hb : c.code = cL_law := hb
  have hown : s.vm.findClass RL = some m.cls := hown
  have hts : ∀ w ∈ wsL_law, w.before #[Value.ref b9] s = true := fun w h => hts0 w (wsL_law_in w h)
  have hok := hXF.2.2.2.2.2.2.2.2
  have hn1 := hok.2.1.1
  have hn2 := hok.2.2.1.1
  have hn3 := hok.2.2.2.1.1
  have hRc : room_1.cells = 601024 := rfl
  have hRs : room_1.slots = 7293034 := rfl
  refine lv_aload_n hx hb dL_law_1366 rfl (lv_at hl 1 rfl) ?_
  refine lv_aload_n hx hb dL_law_1367 rfl (lv_at hl 0 rfl) ?_
  refine lv_iload hx hb dL_law_1368 (lv_at hl 5 rfl) ?_
  refine lv_iconst (v := nI 1) hx hb dL_law_1370 (by decide) ?_
  refine lv_iadd hx hb dL_law_1371 ?_
  refine zti (nI_add _ _) (y := nI (4 * j + 1)) ?_
  refine z_sld (k := (4 * j + 1)) hx hb hX hbl hS (by omega) hL dL_law_1372 ?_
  refine lv_aload_n hx hb dL_law_1373 rfl (lv_at hl 3 rfl) ?_
  obtain ⟨k9, R9, τ9, hk9, hc1, hc2⟩ := bo_installVersion l hfl σ hXF.2.2.2.2.2.2.2.2 (xs (4 * j + 1))
  have hW1 := LW.cls hW
  refine z_cmI (vx_runSW (As := [.ref (a 0), .int (xs (4 * j + 1)), .ref ol]) (rest := []) ⟨hx, hb, hml, hown, hts⟩ (hc1 D cs s.heap.size ea mi sa _ a u ol f1 (hXF.toL (b := b) (w := mkW w) (th := th) (σm := σ) (od := od) (f2 := f2))) (vx_cwSW 3 hts gL_law_L_installVersion rfl rfl rfl (by decide +kernel) ⟨Nat.le_of_ble_eq_true rfl, Nat.le_of_ble_eq_true rfl⟩) ⟨zN_blind, zN_pre hW1 hK hE hN hS⟩ rfl rfl hl.1 rfl (lv_room (Nat.le_of_ble_eq_true rfl)) dL_law_1374 ⟨by rw [hRc]; omega, by rw [hRs]; omega⟩) hS (fun r v H locs hu hW hS => ?_)
  obtain ⟨hu1, hu2, hu3⟩ := hu
  rw [hu1]
  have hW := LW.ret hW
  have hXF := hu3.ofL
  have hMF := (hMF.mk).more (Z' := v.2.1 ++ O) (fun q9 h9 => List.mem_append_right _ h9)
  have hW : Wd D s.heap.size (LW cs a b ol od v.1 τ9 (mkW w) th σ v.2.2 f2 (v.2.1 ++ O)) H := hW
  refine lv_istore (lv' := [(6, .int (nI k9)), (0, .ref b9), (1, .ref (a 0)), (2, .ref (b 0)), (3, .ref ol), (4, .ref od), (5, .int (nI (4 * j)))]) hx hb dL_law_1377 hl (by decide) rfl (fun ls hl => ?_)
  refine lv_aload_n hx hb dL_law_1379 rfl (lv_at hl 3 rfl) ?_
  refine lv_aload_n hx hb dL_law_1380 rfl (lv_at hl 1 rfl) ?_
  refine lv_iload hx hb dL_law_1381 (lv_at hl 6 rfl) ?_
  refine lv_iconst (v := nI 1) hx hb dL_law_1383 (by decide) ?_
  refine lv_iadd hx hb dL_law_1384 ?_
  refine zti (nI_add _ _) (y := nI (4 * j + 1)) ?_
  refine z_sld (k := (4 * j + 1)) hx hb hX hbl hS (by omega) hL dL_law_1385 ?_
  have hW1 := LW.mdl hW
  refine z_cmI (va_runV (As := [.int (xs (4 * j + 1))]) (rest := []) ⟨hx, hb, hml, hown, hts⟩ (hc2 D cs s.heap.size _ b (mkW w) th (hMF.toL (cs := cs) (a := a) (ol := ol) (od := od) (f1 := v.2.2) (f2 := f2) (u' := mkU v.1) (σc := τ9))) (cwV 1 hts gL_law_X3_installVersion rfl rfl rfl (by decide +kernel) ⟨Nat.le_of_ble_eq_true rfl, Nat.le_of_ble_eq_true rfl⟩) ⟨zM_blind, z_recv hK (hW1.1 0 _ rfl) rfl, zM_pre hW1 hK hA9⟩ rfl rfl hl.1 rfl (lv_room (Nat.le_of_ble_eq_true rfl)) dL_law_1386 ⟨by rw [hRc]; omega, by rw [hRs]; omega⟩) hS (fun r v2 H locs hu4 hW hS => ?_)
  obtain ⟨hu5, hu6⟩ := hu4
  have hm0 : At D (b 0) (.inr (4, [.int (nI k9), .int (nI τ9.1.length), .ref (b 1), .int (nI τ9.2.1.length), .ref (b 2), .int (nI τ9.2.2.1.length), .ref (b 3), .ref (b 4), .ref (b 5), .ref (mI v2.1), .int (nI τ9.2.2.2.2.length), .ref (b 6)])) H := hW.1 0 _ rfl
  have hW := LW.mret hW
  have hMF := hu6.ofL
  have hXF := hXF.mk.more (Y' := v2.2 ++ (v.2.1 ++ O)) (fun q9 h9 => List.mem_append_right _ h9)
  have hW : Wd D s.heap.size (LW cs a b ol od (mkU v.1) τ9 v2.1 (nI k9) τ9 v.2.2 f2 (v2.2 ++ (v.2.1 ++ O))) H := hW
  refine lv_istore (lv' := [(7, .int r), (6, .int (nI k9)), (0, .ref b9), (1, .ref (a 0)), (2, .ref (b 0)), (3, .ref ol), (4, .ref od), (5, .int (nI (4 * j)))]) hx hb dL_law_1389 hl (by decide) rfl (fun ls hl => ?_)
  refine lv_aload_n hx hb dL_law_1391 rfl (lv_at hl 4 rfl) ?_
  refine z_csV (As := []) (rest := []) ⟨hx, hb, hml, hown, hts⟩ (c_X3_thrown l D cs (b 0) [.int (nI k9), .int (nI τ9.1.length), .ref (b 1), .int (nI τ9.2.1.length), .ref (b 2), .int (nI τ9.2.2.1.length), .ref (b 3), .ref (b 4), .ref (b 5), .ref (mI v2.1), .int (nI τ9.2.2.2.2.length), .ref (b 6)] (nI k9) rfl) (cwV 0 hts gL_law_X3_thrown rfl rfl rfl (by decide +kernel) ⟨Nat.le_of_ble_eq_true rfl, Nat.le_of_ble_eq_true rfl⟩) hm0 rfl hm0 hK rfl hl.1 rfl (Nat.le_of_ble_eq_true rfl) dL_law_1392 ⟨by rw [hRc]; omega, by rw [hRs]; omega⟩ (fun r hq9 => ?_)
  have hq9 : r = nI k9 := hq9
  rw [hq9]
  refine lv_iload hx hb dL_law_1395 (lv_at hl 1 rfl) ?_
  refine z_icmp_eq (tgt := 1402) hx hb (by omega) (by omega) dL_law_1397 (by decide) (fun hc1397 => ?_) (fun hc1397 => ?_)
  · skip
    have hc1397 : k9 = k9 := hc1397
    refine lv_iload hx hb dL_law_1402 (lv_at hl 1 rfl) ?_
    refine z_ifn_ne (tgt := 1419) hx hb (by omega) dL_law_1404 (by decide) (fun hc1404 => ?_) (fun hc1404 => ?_)
    · skip
      have hc1404 : ¬ k9 = 0 := hc1404
      refine lv_goto (tgt := 1612) hx hb dL_law_1419 (by decide) ?_
      refine W.widen (k := cells + 6) (n := slots + 2007) (by omega) (by omega) ?_
      exact kk H locs ls ⟨τ9, (mkU v.1), v2.1, nI k9, v.2.2, f2, v2.2 ++ (v.2.1 ++ O), hW, hXF, hMF⟩ hS (lv_sub hl [2, 3, 4, 5, 6, 7] rfl)
    · skip
      have hc1404 : k9 = 0 := hc1404
      rw [hu5 hc1404] at hl
      have hl : lv_has ls 9 [(7, .int R9), (6, .int (nI k9)), (0, .ref b9), (1, .ref (a 0)), (2, .ref (b 0)), (3, .ref ol), (4, .ref od), (5, .int (nI (4 * j)))] := hl
      refine lv_aload_n hx hb dL_law_1407 rfl (lv_at hl 5 rfl) ?_
      refine lv_iconst (v := nI 0) hx hb dL_law_1408 (by decide) ?_
      refine va_lald hx hb hK hW.1 0 3 rfl rfl (vp_in_nI (by decide) (by decide)) dL_law_1409 ?_
      rw [show (nI 0).toNatClampNeg = 0 by decide, hu2 hc1404]
      refine lv_iload hx hb dL_law_1410 (lv_at hl 0 rfl) ?_
      refine lv_i2l (v := R9.toInt64) hx hb dL_law_1412 rfl ?_
      refine W.lcmp hx hb dL_law_1413 ?_
      refine zti (lg_sameN _) (y := nI 0) ?_
      refine lv_if_eq (tgt := 1419) hx hb dL_law_1414 (by decide) (fun _ => ?_) (fun h9 => absurd (by decide) h9)
      refine lv_goto (tgt := 1612) hx hb dL_law_1419 (by decide) ?_
      refine W.widen (k := cells + 6) (n := slots + 2007) (by omega) (by omega) ?_
      exact kk H locs ls ⟨τ9, (mkU v.1), v2.1, nI k9, v.2.2, f2, v2.2 ++ (v.2.1 ++ O), hW, hXF, hMF⟩ hS (lv_sub hl [2, 3, 4, 5, 6, 7] rfl)
  · skip
    have hc1397 : ¬ k9 = k9 := hc1397
    exact absurd rfl hc1397

set_option maxHeartbeats 4000000 in
set_option maxRecDepth 100000 in
theorem law_20 {p : Program} {l : Launch} {e : Env} {s : State} {m : MethodId} {below : List Frame} {meth : Method} {c : Code} {b9 L : Nat} {xs : Nat → Int32} (hfl : l.stackTraces = false) (hL : L ≤ 2048) (C0 : lw_At p s m meth c b9 L xs) {D : va_G} {cs : Nat → ClassId} {ea mi : Nat} {sa : Nat → Nat} (E0 : lw_E D cs ea mi sa s) {a b : Nat → Nat} {ol od j cells slots : Nat} {H : Heap} {locs : List Loc} {ls : Array Slot} (hj : 4 * j + 4 ≤ L) (hcl : cells + 6 ≤ 601024) (hsl : slots + 2007 ≤ 7293034) (hI : lw_I D cs s.heap.size ea a b ol od H) (hS : va_S (SA s.heap.size) s.heap H locs) (hl : lv_has ls 9 [(0, .ref b9), (1, .ref (a 0)), (2, .ref (b 0)), (3, .ref ol), (4, .ref od), (5, .int (nI (4 * j)))])
    (kk : ∀ (H : Heap) (locs : List Loc) (ls : Array Slot), lw_I D cs s.heap.size ea a b ol od H → va_S (SA s.heap.size) s.heap H locs → lv_has ls 9 [(0, .ref b9), (1, .ref (a 0)), (2, .ref (b 0)), (3, .ref ol), (4, .ref od), (5, .int (nI (4 * j)))] → W p l e room_1 s m #[Value.ref b9] below meth c H locs (cells + 6) (slots + 2007) (lw_Z below #[Value.ref b9] s) (F0 m 1612 ls [])) : W p l e room_1 s m #[Value.ref b9] below meth c H locs cells slots (lw_Z below #[Value.ref b9] s) (F0 m 1422 ls []) := by
  obtain ⟨hx, hb, hr, hml, hown, hts0, hX, hbl, hlocks, hgv⟩ := C0
  obtain ⟨hK, hE, hN, hA9⟩ := E0
  obtain ⟨σ, u, w, th, f1, f2, O, hW, hXF, hMF⟩ := hI
  have hb : c.code = cL_law := hb
  have hown : s.vm.findClass RL = some m.cls := hown
  have hts : ∀ w ∈ wsL_law, w.before #[Value.ref b9] s = true := fun w h => hts0 w (wsL_law_in w h)
  have hok := hXF.2.2.2.2.2.2.2.2
  have hn1 := hok.2.1.1
  have hn2 := hok.2.2.1.1
  have hn3 := hok.2.2.2.1.1
  have hRc : room_1.cells = 601024 := rfl
  have hRs : room_1.slots = 7293034 := rfl
  refine lv_aload_n hx hb dL_law_1422 rfl (lv_at hl 1 rfl) ?_
  refine lv_aload_n hx hb dL_law_1423 rfl (lv_at hl 0 rfl) ?_
  refine lv_iload hx hb dL_law_1424 (lv_at hl 5 rfl) ?_
  refine lv_iconst (v := nI 1) hx hb dL_law_1426 (by decide) ?_
  refine lv_iadd hx hb dL_law_1427 ?_
  refine zti (nI_add _ _) (y := nI (4 * j + 1)) ?_
  refine z_sld (k := (4 * j + 1)) hx hb hX hbl hS (by omega) hL dL_law_1428 ?_
  refine lv_aload_n hx hb dL_law_1429 rfl (lv_at hl 3 rfl) ?_
  obtain ⟨k9, R9, τ9, hk9, hc1, hc2⟩ := bo_installPatch l hfl σ hXF.2.2.2.2.2.2.2.2 (xs (4 * j + 1))
  have hW1 := LW.cls hW
  refine z_cmI (vx_runSW (As := [.ref (a 0), .int (xs (4 * j + 1)), .ref ol]) (rest := []) ⟨hx, hb, hml, hown, hts⟩ (hc1 D cs s.heap.size ea mi sa _ a u ol f1 (hXF.toL (b := b) (w := mkW w) (th := th) (σm := σ) (od := od) (f2 := f2))) (vx_cwSW 3 hts gL_law_L_installPatch rfl rfl rfl (by decide +kernel) ⟨Nat.le_of_ble_eq_true rfl, Nat.le_of_ble_eq_true rfl⟩) ⟨zN_blind, zN_pre hW1 hK hE hN hS⟩ rfl rfl hl.1 rfl (lv_room (Nat.le_of_ble_eq_true rfl)) dL_law_1430 ⟨by rw [hRc]; omega, by rw [hRs]; omega⟩) hS (fun r v H locs hu hW hS => ?_)
  obtain ⟨hu1, hu2, hu3⟩ := hu
  rw [hu1]
  have hW := LW.ret hW
  have hXF := hu3.ofL
  have hMF := (hMF.mk).more (Z' := v.2.1 ++ O) (fun q9 h9 => List.mem_append_right _ h9)
  have hW : Wd D s.heap.size (LW cs a b ol od v.1 τ9 (mkW w) th σ v.2.2 f2 (v.2.1 ++ O)) H := hW
  refine lv_istore (lv' := [(6, .int (nI k9)), (0, .ref b9), (1, .ref (a 0)), (2, .ref (b 0)), (3, .ref ol), (4, .ref od), (5, .int (nI (4 * j)))]) hx hb dL_law_1433 hl (by decide) rfl (fun ls hl => ?_)
  refine lv_aload_n hx hb dL_law_1435 rfl (lv_at hl 3 rfl) ?_
  refine lv_aload_n hx hb dL_law_1436 rfl (lv_at hl 1 rfl) ?_
  refine lv_iload hx hb dL_law_1437 (lv_at hl 6 rfl) ?_
  refine lv_iconst (v := nI 1) hx hb dL_law_1439 (by decide) ?_
  refine lv_iadd hx hb dL_law_1440 ?_
  refine zti (nI_add _ _) (y := nI (4 * j + 1)) ?_
  refine z_sld (k := (4 * j + 1)) hx hb hX hbl hS (by omega) hL dL_law_1441 ?_
  have hW1 := LW.mdl hW
  refine z_cmI (va_runV (As := [.int (xs (4 * j + 1))]) (rest := []) ⟨hx, hb, hml, hown, hts⟩ (hc2 D cs s.heap.size _ b (mkW w) th (hMF.toL (cs := cs) (a := a) (ol := ol) (od := od) (f1 := v.2.2) (f2 := f2) (u' := mkU v.1) (σc := τ9))) (cwV 1 hts gL_law_X3_installPatch rfl rfl rfl (by decide +kernel) ⟨Nat.le_of_ble_eq_true rfl, Nat.le_of_ble_eq_true rfl⟩) ⟨zM_blind, z_recv hK (hW1.1 0 _ rfl) rfl, zM_pre hW1 hK hA9⟩ rfl rfl hl.1 rfl (lv_room (Nat.le_of_ble_eq_true rfl)) dL_law_1442 ⟨by rw [hRc]; omega, by rw [hRs]; omega⟩) hS (fun r v2 H locs hu4 hW hS => ?_)
  obtain ⟨hu5, hu6⟩ := hu4
  have hm0 : At D (b 0) (.inr (4, [.int (nI k9), .int (nI τ9.1.length), .ref (b 1), .int (nI τ9.2.1.length), .ref (b 2), .int (nI τ9.2.2.1.length), .ref (b 3), .ref (b 4), .ref (b 5), .ref (mI v2.1), .int (nI τ9.2.2.2.2.length), .ref (b 6)])) H := hW.1 0 _ rfl
  have hW := LW.mret hW
  have hMF := hu6.ofL
  have hXF := hXF.mk.more (Y' := v2.2 ++ (v.2.1 ++ O)) (fun q9 h9 => List.mem_append_right _ h9)
  have hW : Wd D s.heap.size (LW cs a b ol od (mkU v.1) τ9 v2.1 (nI k9) τ9 v.2.2 f2 (v2.2 ++ (v.2.1 ++ O))) H := hW
  refine lv_istore (lv' := [(7, .int r), (6, .int (nI k9)), (0, .ref b9), (1, .ref (a 0)), (2, .ref (b 0)), (3, .ref ol), (4, .ref od), (5, .int (nI (4 * j)))]) hx hb dL_law_1445 hl (by decide) rfl (fun ls hl => ?_)
  refine lv_aload_n hx hb dL_law_1447 rfl (lv_at hl 4 rfl) ?_
  refine z_csV (As := []) (rest := []) ⟨hx, hb, hml, hown, hts⟩ (c_X3_thrown l D cs (b 0) [.int (nI k9), .int (nI τ9.1.length), .ref (b 1), .int (nI τ9.2.1.length), .ref (b 2), .int (nI τ9.2.2.1.length), .ref (b 3), .ref (b 4), .ref (b 5), .ref (mI v2.1), .int (nI τ9.2.2.2.2.length), .ref (b 6)] (nI k9) rfl) (cwV 0 hts gL_law_X3_thrown rfl rfl rfl (by decide +kernel) ⟨Nat.le_of_ble_eq_true rfl, Nat.le_of_ble_eq_true rfl⟩) hm0 rfl hm0 hK rfl hl.1 rfl (Nat.le_of_ble_eq_true rfl) dL_law_1448 ⟨by rw [hRc]; omega, by rw [hRs]; omega⟩ (fun r hq9 => ?_)
  have hq9 : r = nI k9 := hq9
  rw [hq9]
  refine lv_iload hx hb dL_law_1451 (lv_at hl 1 rfl) ?_
  refine z_icmp_eq (tgt := 1458) hx hb (by omega) (by omega) dL_law_1453 (by decide) (fun hc1453 => ?_) (fun hc1453 => ?_)
  · skip
    have hc1453 : k9 = k9 := hc1453
    refine lv_iload hx hb dL_law_1458 (lv_at hl 1 rfl) ?_
    refine z_ifn_ne (tgt := 1475) hx hb (by omega) dL_law_1460 (by decide) (fun hc1460 => ?_) (fun hc1460 => ?_)
    · skip
      have hc1460 : ¬ k9 = 0 := hc1460
      refine lv_goto (tgt := 1612) hx hb dL_law_1475 (by decide) ?_
      refine W.widen (k := cells + 6) (n := slots + 2007) (by omega) (by omega) ?_
      exact kk H locs ls ⟨τ9, (mkU v.1), v2.1, nI k9, v.2.2, f2, v2.2 ++ (v.2.1 ++ O), hW, hXF, hMF⟩ hS (lv_sub hl [2, 3, 4, 5, 6, 7] rfl)
    · skip
      have hc1460 : k9 = 0 := hc1460
      rw [hu5 hc1460] at hl
      have hl : lv_has ls 9 [(7, .int R9), (6, .int (nI k9)), (0, .ref b9), (1, .ref (a 0)), (2, .ref (b 0)), (3, .ref ol), (4, .ref od), (5, .int (nI (4 * j)))] := hl
      refine lv_aload_n hx hb dL_law_1463 rfl (lv_at hl 5 rfl) ?_
      refine lv_iconst (v := nI 0) hx hb dL_law_1464 (by decide) ?_
      refine va_lald hx hb hK hW.1 0 3 rfl rfl (vp_in_nI (by decide) (by decide)) dL_law_1465 ?_
      rw [show (nI 0).toNatClampNeg = 0 by decide, hu2 hc1460]
      refine lv_iload hx hb dL_law_1466 (lv_at hl 0 rfl) ?_
      refine lv_i2l (v := R9.toInt64) hx hb dL_law_1468 rfl ?_
      refine W.lcmp hx hb dL_law_1469 ?_
      refine zti (lg_sameN _) (y := nI 0) ?_
      refine lv_if_eq (tgt := 1475) hx hb dL_law_1470 (by decide) (fun _ => ?_) (fun h9 => absurd (by decide) h9)
      refine lv_goto (tgt := 1612) hx hb dL_law_1475 (by decide) ?_
      refine W.widen (k := cells + 6) (n := slots + 2007) (by omega) (by omega) ?_
      exact kk H locs ls ⟨τ9, (mkU v.1), v2.1, nI k9, v.2.2, f2, v2.2 ++ (v.2.1 ++ O), hW, hXF, hMF⟩ hS (lv_sub hl [2, 3, 4, 5, 6, 7] rfl)
  · skip
    have hc1453 : ¬ k9 = k9 := hc1453
    exact absurd rfl hc1453

set_option maxHeartbeats 4000000 in
set_option maxRecDepth 100000 in
theorem law_21 {p : Program} {l : Launch} {e : Env} {s : State} {m : MethodId} {below : List Frame} {meth : Method} {c : Code} {b9 L : Nat} {xs : Nat → Int32} (hfl : l.stackTraces = false) (hL : L ≤ 2048) (C0 : lw_At p s m meth c b9 L xs) {D : va_G} {cs : Nat → ClassId} {ea mi : Nat} {sa : Nat → Nat} (E0 : lw_E D cs ea mi sa s) {a b : Nat → Nat} {ol od j cells slots : Nat} {H : Heap} {locs : List Loc} {ls : Array Slot} (hj : 4 * j + 4 ≤ L) (hcl : cells + 6 ≤ 601024) (hsl : slots + 2007 ≤ 7293034) (hI : lw_I D cs s.heap.size ea a b ol od H) (hS : va_S (SA s.heap.size) s.heap H locs) (hl : lv_has ls 9 [(0, .ref b9), (1, .ref (a 0)), (2, .ref (b 0)), (3, .ref ol), (4, .ref od), (5, .int (nI (4 * j)))])
    (kk : ∀ (H : Heap) (locs : List Loc) (ls : Array Slot), lw_I D cs s.heap.size ea a b ol od H → va_S (SA s.heap.size) s.heap H locs → lv_has ls 9 [(0, .ref b9), (1, .ref (a 0)), (2, .ref (b 0)), (3, .ref ol), (4, .ref od), (5, .int (nI (4 * j)))] → W p l e room_1 s m #[Value.ref b9] below meth c H locs (cells + 6) (slots + 2007) (lw_Z below #[Value.ref b9] s) (F0 m 1612 ls [])) : W p l e room_1 s m #[Value.ref b9] below meth c H locs cells slots (lw_Z below #[Value.ref b9] s) (F0 m 1478 ls []) := by
  obtain ⟨hx, hb, hr, hml, hown, hts0, hX, hbl, hlocks, hgv⟩ := C0
  obtain ⟨hK, hE, hN, hA9⟩ := E0
  obtain ⟨σ, u, w, th, f1, f2, O, hW, hXF, hMF⟩ := hI
  have hb : c.code = cL_law := hb
  have hown : s.vm.findClass RL = some m.cls := hown
  have hts : ∀ w ∈ wsL_law, w.before #[Value.ref b9] s = true := fun w h => hts0 w (wsL_law_in w h)
  have hok := hXF.2.2.2.2.2.2.2.2
  have hn1 := hok.2.1.1
  have hn2 := hok.2.2.1.1
  have hn3 := hok.2.2.2.1.1
  have hRc : room_1.cells = 601024 := rfl
  have hRs : room_1.slots = 7293034 := rfl
  refine lv_aload_n hx hb dL_law_1478 rfl (lv_at hl 1 rfl) ?_
  refine lv_aload_n hx hb dL_law_1479 rfl (lv_at hl 3 rfl) ?_
  obtain ⟨k9, R9, τ9, hk9, hc1, hc2⟩ := bo_rollBack l hfl σ hXF.2.2.2.2.2.2.2.2 
  have hW1 := LW.cls hW
  refine z_cmI (vx_runSW (As := [.ref (a 0), .ref ol]) (rest := []) ⟨hx, hb, hml, hown, hts⟩ (hc1 D cs s.heap.size ea mi sa _ a u ol f1 (hXF.toL (b := b) (w := mkW w) (th := th) (σm := σ) (od := od) (f2 := f2))) (vx_cwSW 2 hts gL_law_L_rollBack rfl rfl rfl (by decide +kernel) ⟨Nat.le_of_ble_eq_true rfl, Nat.le_of_ble_eq_true rfl⟩) ⟨zN_blind, zN_pre hW1 hK hE hN hS⟩ rfl rfl hl.1 rfl (lv_room (Nat.le_of_ble_eq_true rfl)) dL_law_1480 ⟨by rw [hRc]; omega, by rw [hRs]; omega⟩) hS (fun r v H locs hu hW hS => ?_)
  obtain ⟨hu1, hu2, hu3⟩ := hu
  rw [hu1]
  have hW := LW.ret hW
  have hXF := hu3.ofL
  have hMF := (hMF.mk).more (Z' := v.2.1 ++ O) (fun q9 h9 => List.mem_append_right _ h9)
  have hW : Wd D s.heap.size (LW cs a b ol od v.1 τ9 (mkW w) th σ v.2.2 f2 (v.2.1 ++ O)) H := hW
  refine lv_istore (lv' := [(6, .int (nI k9)), (0, .ref b9), (1, .ref (a 0)), (2, .ref (b 0)), (3, .ref ol), (4, .ref od), (5, .int (nI (4 * j)))]) hx hb dL_law_1483 hl (by decide) rfl (fun ls hl => ?_)
  refine lv_aload_n hx hb dL_law_1485 rfl (lv_at hl 3 rfl) ?_
  have hW1 := LW.mdl hW
  refine z_cmI (va_runV (As := []) (rest := []) ⟨hx, hb, hml, hown, hts⟩ (hc2 D cs s.heap.size _ b (mkW w) th (hMF.toL (cs := cs) (a := a) (ol := ol) (od := od) (f1 := v.2.2) (f2 := f2) (u' := mkU v.1) (σc := τ9))) (cwV 0 hts gL_law_X3_rollBack rfl rfl rfl (by decide +kernel) ⟨Nat.le_of_ble_eq_true rfl, Nat.le_of_ble_eq_true rfl⟩) ⟨zM_blind, z_recv hK (hW1.1 0 _ rfl) rfl, zM_pre hW1 hK hA9⟩ rfl rfl hl.1 rfl (lv_room (Nat.le_of_ble_eq_true rfl)) dL_law_1486 ⟨by rw [hRc]; omega, by rw [hRs]; omega⟩) hS (fun r v2 H locs hu4 hW hS => ?_)
  obtain ⟨hu5, hu6⟩ := hu4
  have hm0 : At D (b 0) (.inr (4, [.int (nI k9), .int (nI τ9.1.length), .ref (b 1), .int (nI τ9.2.1.length), .ref (b 2), .int (nI τ9.2.2.1.length), .ref (b 3), .ref (b 4), .ref (b 5), .ref (mI v2.1), .int (nI τ9.2.2.2.2.length), .ref (b 6)])) H := hW.1 0 _ rfl
  have hW := LW.mret hW
  have hMF := hu6.ofL
  have hXF := hXF.mk.more (Y' := v2.2 ++ (v.2.1 ++ O)) (fun q9 h9 => List.mem_append_right _ h9)
  have hW : Wd D s.heap.size (LW cs a b ol od (mkU v.1) τ9 v2.1 (nI k9) τ9 v.2.2 f2 (v2.2 ++ (v.2.1 ++ O))) H := hW
  refine lv_istore (lv' := [(7, .int r), (6, .int (nI k9)), (0, .ref b9), (1, .ref (a 0)), (2, .ref (b 0)), (3, .ref ol), (4, .ref od), (5, .int (nI (4 * j)))]) hx hb dL_law_1489 hl (by decide) rfl (fun ls hl => ?_)
  refine lv_aload_n hx hb dL_law_1491 rfl (lv_at hl 4 rfl) ?_
  refine z_csV (As := []) (rest := []) ⟨hx, hb, hml, hown, hts⟩ (c_X3_thrown l D cs (b 0) [.int (nI k9), .int (nI τ9.1.length), .ref (b 1), .int (nI τ9.2.1.length), .ref (b 2), .int (nI τ9.2.2.1.length), .ref (b 3), .ref (b 4), .ref (b 5), .ref (mI v2.1), .int (nI τ9.2.2.2.2.length), .ref (b 6)] (nI k9) rfl) (cwV 0 hts gL_law_X3_thrown rfl rfl rfl (by decide +kernel) ⟨Nat.le_of_ble_eq_true rfl, Nat.le_of_ble_eq_true rfl⟩) hm0 rfl hm0 hK rfl hl.1 rfl (Nat.le_of_ble_eq_true rfl) dL_law_1492 ⟨by rw [hRc]; omega, by rw [hRs]; omega⟩ (fun r hq9 => ?_)
  have hq9 : r = nI k9 := hq9
  rw [hq9]
  refine lv_iload hx hb dL_law_1495 (lv_at hl 1 rfl) ?_
  refine z_icmp_eq (tgt := 1502) hx hb (by omega) (by omega) dL_law_1497 (by decide) (fun hc1497 => ?_) (fun hc1497 => ?_)
  · skip
    have hc1497 : k9 = k9 := hc1497
    refine lv_iload hx hb dL_law_1502 (lv_at hl 1 rfl) ?_
    refine z_ifn_ne (tgt := 1519) hx hb (by omega) dL_law_1504 (by decide) (fun hc1504 => ?_) (fun hc1504 => ?_)
    · skip
      have hc1504 : ¬ k9 = 0 := hc1504
      refine lv_goto (tgt := 1612) hx hb dL_law_1519 (by decide) ?_
      refine W.widen (k := cells + 6) (n := slots + 2007) (by omega) (by omega) ?_
      exact kk H locs ls ⟨τ9, (mkU v.1), v2.1, nI k9, v.2.2, f2, v2.2 ++ (v.2.1 ++ O), hW, hXF, hMF⟩ hS (lv_sub hl [2, 3, 4, 5, 6, 7] rfl)
    · skip
      have hc1504 : k9 = 0 := hc1504
      rw [hu5 hc1504] at hl
      have hl : lv_has ls 9 [(7, .int R9), (6, .int (nI k9)), (0, .ref b9), (1, .ref (a 0)), (2, .ref (b 0)), (3, .ref ol), (4, .ref od), (5, .int (nI (4 * j)))] := hl
      refine lv_aload_n hx hb dL_law_1507 rfl (lv_at hl 5 rfl) ?_
      refine lv_iconst (v := nI 0) hx hb dL_law_1508 (by decide) ?_
      refine va_lald hx hb hK hW.1 0 3 rfl rfl (vp_in_nI (by decide) (by decide)) dL_law_1509 ?_
      rw [show (nI 0).toNatClampNeg = 0 by decide, hu2 hc1504]
      refine lv_iload hx hb dL_law_1510 (lv_at hl 0 rfl) ?_
      refine lv_i2l (v := R9.toInt64) hx hb dL_law_1512 rfl ?_
      refine W.lcmp hx hb dL_law_1513 ?_
      refine zti (lg_sameN _) (y := nI 0) ?_
      refine lv_if_eq (tgt := 1519) hx hb dL_law_1514 (by decide) (fun _ => ?_) (fun h9 => absurd (by decide) h9)
      refine lv_goto (tgt := 1612) hx hb dL_law_1519 (by decide) ?_
      refine W.widen (k := cells + 6) (n := slots + 2007) (by omega) (by omega) ?_
      exact kk H locs ls ⟨τ9, (mkU v.1), v2.1, nI k9, v.2.2, f2, v2.2 ++ (v.2.1 ++ O), hW, hXF, hMF⟩ hS (lv_sub hl [2, 3, 4, 5, 6, 7] rfl)
  · skip
    have hc1497 : ¬ k9 = k9 := hc1497
    exact absurd rfl hc1497

set_option maxHeartbeats 4000000 in
set_option maxRecDepth 100000 in
theorem law_22 {p : Program} {l : Launch} {e : Env} {s : State} {m : MethodId} {below : List Frame} {meth : Method} {c : Code} {b9 L : Nat} {xs : Nat → Int32} (hfl : l.stackTraces = false) (hL : L ≤ 2048) (C0 : lw_At p s m meth c b9 L xs) {D : va_G} {cs : Nat → ClassId} {ea mi : Nat} {sa : Nat → Nat} (E0 : lw_E D cs ea mi sa s) {a b : Nat → Nat} {ol od j cells slots : Nat} {H : Heap} {locs : List Loc} {ls : Array Slot} (hj : 4 * j + 4 ≤ L) (hcl : cells + 6 ≤ 601024) (hsl : slots + 2007 ≤ 7293034) (hI : lw_I D cs s.heap.size ea a b ol od H) (hS : va_S (SA s.heap.size) s.heap H locs) (hl : lv_has ls 9 [(0, .ref b9), (1, .ref (a 0)), (2, .ref (b 0)), (3, .ref ol), (4, .ref od), (5, .int (nI (4 * j)))])
    (kk : ∀ (H : Heap) (locs : List Loc) (ls : Array Slot), lw_I D cs s.heap.size ea a b ol od H → va_S (SA s.heap.size) s.heap H locs → lv_has ls 9 [(0, .ref b9), (1, .ref (a 0)), (2, .ref (b 0)), (3, .ref ol), (4, .ref od), (5, .int (nI (4 * j)))] → W p l e room_1 s m #[Value.ref b9] below meth c H locs (cells + 6) (slots + 2007) (lw_Z below #[Value.ref b9] s) (F0 m 1612 ls [])) : W p l e room_1 s m #[Value.ref b9] below meth c H locs cells slots (lw_Z below #[Value.ref b9] s) (F0 m 1522 ls []) := by
  obtain ⟨hx, hb, hr, hml, hown, hts0, hX, hbl, hlocks, hgv⟩ := C0
  obtain ⟨hK, hE, hN, hA9⟩ := E0
  obtain ⟨σ, u, w, th, f1, f2, O, hW, hXF, hMF⟩ := hI
  have hb : c.code = cL_law := hb
  have hown : s.vm.findClass RL = some m.cls := hown
  have hts : ∀ w ∈ wsL_law, w.before #[Value.ref b9] s = true := fun w h => hts0 w (wsL_law_in w h)
  have hok := hXF.2.2.2.2.2.2.2.2
  have hn1 := hok.2.1.1
  have hn2 := hok.2.2.1.1
  have hn3 := hok.2.2.2.1.1
  have hRc : room_1.cells = 601024 := rfl
  have hRs : room_1.slots = 7293034 := rfl
  refine lv_aload_n hx hb dL_law_1522 rfl (lv_at hl 1 rfl) ?_
  refine lv_aload_n hx hb dL_law_1523 rfl (lv_at hl 0 rfl) ?_
  refine lv_iload hx hb dL_law_1524 (lv_at hl 5 rfl) ?_
  refine lv_iconst (v := nI 1) hx hb dL_law_1526 (by decide) ?_
  refine lv_iadd hx hb dL_law_1527 ?_
  refine zti (nI_add _ _) (y := nI (4 * j + 1)) ?_
  refine z_sld (k := (4 * j + 1)) hx hb hX hbl hS (by omega) hL dL_law_1528 ?_
  refine lv_aload_n hx hb dL_law_1529 rfl (lv_at hl 3 rfl) ?_
  obtain ⟨k9, cb, τ9, hk9, hc1, hc2⟩ := bo_isInstalled l hfl σ hXF.2.2.2.2.2.2.2.2 (xs (4 * j + 1))
  have hW1 := LW.cls hW
  refine z_cmI (vx_runSW (As := [.ref (a 0), .int (xs (4 * j + 1)), .ref ol]) (rest := []) ⟨hx, hb, hml, hown, hts⟩ (hc1 D cs s.heap.size ea mi sa _ a u ol f1 (hXF.toL (b := b) (w := mkW w) (th := th) (σm := σ) (od := od) (f2 := f2))) (vx_cwSW 3 hts gL_law_L_isInstalled rfl rfl rfl (by decide +kernel) ⟨Nat.le_of_ble_eq_true rfl, Nat.le_of_ble_eq_true rfl⟩) ⟨zN_blind, zN_pre hW1 hK hE hN hS⟩ rfl rfl hl.1 rfl (lv_room (Nat.le_of_ble_eq_true rfl)) dL_law_1530 ⟨by rw [hRc]; omega, by rw [hRs]; omega⟩) hS (fun r v H locs hu hW hS => ?_)
  obtain ⟨hu1, hu2, hu3⟩ := hu
  rw [hu1]
  have hW := LW.ret hW
  have hXF := hu3.ofL
  have hMF := (hMF.mk).more (Z' := v.2.1 ++ O) (fun q9 h9 => List.mem_append_right _ h9)
  have hW : Wd D s.heap.size (LW cs a b ol od v.1 τ9 (mkW w) th σ v.2.2 f2 (v.2.1 ++ O)) H := hW
  refine lv_istore (lv' := [(6, .int (nI k9)), (0, .ref b9), (1, .ref (a 0)), (2, .ref (b 0)), (3, .ref ol), (4, .ref od), (5, .int (nI (4 * j)))]) hx hb dL_law_1533 hl (by decide) rfl (fun ls hl => ?_)
  refine lv_aload_n hx hb dL_law_1535 rfl (lv_at hl 3 rfl) ?_
  refine lv_aload_n hx hb dL_law_1536 rfl (lv_at hl 1 rfl) ?_
  refine lv_iload hx hb dL_law_1537 (lv_at hl 6 rfl) ?_
  refine lv_iconst (v := nI 1) hx hb dL_law_1539 (by decide) ?_
  refine lv_iadd hx hb dL_law_1540 ?_
  refine zti (nI_add _ _) (y := nI (4 * j + 1)) ?_
  refine z_sld (k := (4 * j + 1)) hx hb hX hbl hS (by omega) hL dL_law_1541 ?_
  have hW1 := LW.mdl hW
  refine z_cmI (va_runV (As := [.int (xs (4 * j + 1))]) (rest := []) ⟨hx, hb, hml, hown, hts⟩ (hc2 D cs s.heap.size _ b (mkW w) th (hMF.toL (cs := cs) (a := a) (ol := ol) (od := od) (f1 := v.2.2) (f2 := f2) (u' := mkU v.1) (σc := τ9))) (cwV 1 hts gL_law_X3_isInstalled rfl rfl rfl (by decide +kernel) ⟨Nat.le_of_ble_eq_true rfl, Nat.le_of_ble_eq_true rfl⟩) ⟨zM_blind, z_recv hK (hW1.1 0 _ rfl) rfl, zM_pre hW1 hK hA9⟩ rfl rfl hl.1 rfl (lv_room (Nat.le_of_ble_eq_true rfl)) dL_law_1542 ⟨by rw [hRc]; omega, by rw [hRs]; omega⟩) hS (fun r v2 H locs hu4 hW hS => ?_)
  obtain ⟨hu5, hu6⟩ := hu4
  have hm0 : At D (b 0) (.inr (4, [.int (nI k9), .int (nI τ9.1.length), .ref (b 1), .int (nI τ9.2.1.length), .ref (b 2), .int (nI τ9.2.2.1.length), .ref (b 3), .ref (b 4), .ref (b 5), .ref (mI v2.1), .int (nI τ9.2.2.2.2.length), .ref (b 6)])) H := hW.1 0 _ rfl
  have hW := LW.mret hW
  have hMF := hu6.ofL
  have hXF := hXF.mk.more (Y' := v2.2 ++ (v.2.1 ++ O)) (fun q9 h9 => List.mem_append_right _ h9)
  have hW : Wd D s.heap.size (LW cs a b ol od (mkU v.1) τ9 v2.1 (nI k9) τ9 v.2.2 f2 (v2.2 ++ (v.2.1 ++ O))) H := hW
  refine lv_istore (lv' := [(7, .int r), (6, .int (nI k9)), (0, .ref b9), (1, .ref (a 0)), (2, .ref (b 0)), (3, .ref ol), (4, .ref od), (5, .int (nI (4 * j)))]) hx hb dL_law_1545 hl (by decide) rfl (fun ls hl => ?_)
  refine lv_aload_n hx hb dL_law_1547 rfl (lv_at hl 4 rfl) ?_
  refine z_csV (As := []) (rest := []) ⟨hx, hb, hml, hown, hts⟩ (c_X3_thrown l D cs (b 0) [.int (nI k9), .int (nI τ9.1.length), .ref (b 1), .int (nI τ9.2.1.length), .ref (b 2), .int (nI τ9.2.2.1.length), .ref (b 3), .ref (b 4), .ref (b 5), .ref (mI v2.1), .int (nI τ9.2.2.2.2.length), .ref (b 6)] (nI k9) rfl) (cwV 0 hts gL_law_X3_thrown rfl rfl rfl (by decide +kernel) ⟨Nat.le_of_ble_eq_true rfl, Nat.le_of_ble_eq_true rfl⟩) hm0 rfl hm0 hK rfl hl.1 rfl (Nat.le_of_ble_eq_true rfl) dL_law_1548 ⟨by rw [hRc]; omega, by rw [hRs]; omega⟩ (fun r hq9 => ?_)
  have hq9 : r = nI k9 := hq9
  rw [hq9]
  refine lv_iload hx hb dL_law_1551 (lv_at hl 1 rfl) ?_
  refine z_icmp_eq (tgt := 1558) hx hb (by omega) (by omega) dL_law_1553 (by decide) (fun hc1553 => ?_) (fun hc1553 => ?_)
  · skip
    have hc1553 : k9 = k9 := hc1553
    refine lv_iload hx hb dL_law_1558 (lv_at hl 1 rfl) ?_
    refine z_ifn_ne (tgt := 1582) hx hb (by omega) dL_law_1560 (by decide) (fun hc1560 => ?_) (fun hc1560 => ?_)
    · skip
      have hc1560 : ¬ k9 = 0 := hc1560
      refine lv_goto (tgt := 1612) hx hb dL_law_1582 (by decide) ?_
      refine W.widen (k := cells + 6) (n := slots + 2007) (by omega) (by omega) ?_
      exact kk H locs ls ⟨τ9, (mkU v.1), v2.1, nI k9, v.2.2, f2, v2.2 ++ (v.2.1 ++ O), hW, hXF, hMF⟩ hS (lv_sub hl [2, 3, 4, 5, 6, 7] rfl)
    · skip
      have hc1560 : k9 = 0 := hc1560
      rw [hu5 hc1560] at hl
      have hl : lv_has ls 9 [(7, .int (bI cb)), (6, .int (nI k9)), (0, .ref b9), (1, .ref (a 0)), (2, .ref (b 0)), (3, .ref ol), (4, .ref od), (5, .int (nI (4 * j)))] := hl
      refine lv_aload_n hx hb dL_law_1563 rfl (lv_at hl 5 rfl) ?_
      refine lv_iconst (v := nI 0) hx hb dL_law_1564 (by decide) ?_
      refine va_lald hx hb hK hW.1 0 3 rfl rfl (vp_in_nI (by decide) (by decide)) dL_law_1565 ?_
      rw [show (nI 0).toNatClampNeg = 0 by decide, hu2 hc1560]
      refine lv_iload hx hb dL_law_1566 (lv_at hl 0 rfl) ?_
      refine z_ifb_eq (tgt := 1575) hx hb dL_law_1568 (by decide) (fun hc1568 => ?_) (fun hc1568 => ?_)
      · skip
        have hc1568 : cb = false := hc1568
        refine lv_lconst (v := 0) hx hb dL_law_1575 (by decide) ?_
        refine W.lcmp hx hb dL_law_1576 ?_
        refine zti (by rw [hc1568]; exact lg_sameN _) (y := nI 0) ?_
        refine lv_if_eq (tgt := 1582) hx hb dL_law_1577 (by decide) (fun _ => ?_) (fun h9 => absurd (by decide) h9)
        refine lv_goto (tgt := 1612) hx hb dL_law_1582 (by decide) ?_
        refine W.widen (k := cells + 6) (n := slots + 2007) (by omega) (by omega) ?_
        exact kk H locs ls ⟨τ9, (mkU v.1), v2.1, nI k9, v.2.2, f2, v2.2 ++ (v.2.1 ++ O), hW, hXF, hMF⟩ hS (lv_sub hl [2, 3, 4, 5, 6, 7] rfl)
      · skip
        have hc1568 : cb = true := hc1568
        refine lv_lconst (v := 1) hx hb dL_law_1571 (by decide) ?_
        refine lv_goto (tgt := 1576) hx hb dL_law_1572 (by decide) ?_
        refine W.lcmp hx hb dL_law_1576 ?_
        refine zti (by rw [hc1568]; exact lg_sameN _) (y := nI 0) ?_
        refine lv_if_eq (tgt := 1582) hx hb dL_law_1577 (by decide) (fun _ => ?_) (fun h9 => absurd (by decide) h9)
        refine lv_goto (tgt := 1612) hx hb dL_law_1582 (by decide) ?_
        refine W.widen (k := cells + 6) (n := slots + 2007) (by omega) (by omega) ?_
        exact kk H locs ls ⟨τ9, (mkU v.1), v2.1, nI k9, v.2.2, f2, v2.2 ++ (v.2.1 ++ O), hW, hXF, hMF⟩ hS (lv_sub hl [2, 3, 4, 5, 6, 7] rfl)
  · skip
    have hc1553 : ¬ k9 = k9 := hc1553
    exact absurd rfl hc1553

set_option maxHeartbeats 4000000 in
set_option maxRecDepth 100000 in
theorem law_23 {p : Program} {l : Launch} {e : Env} {s : State} {m : MethodId} {below : List Frame} {meth : Method} {c : Code} {b9 L : Nat} {xs : Nat → Int32} (hfl : l.stackTraces = false) (hL : L ≤ 2048) (C0 : lw_At p s m meth c b9 L xs) {D : va_G} {cs : Nat → ClassId} {ea mi : Nat} {sa : Nat → Nat} (E0 : lw_E D cs ea mi sa s) {a b : Nat → Nat} {ol od j cells slots : Nat} {H : Heap} {locs : List Loc} {ls : Array Slot} (hj : 4 * j + 4 ≤ L) (hcl : cells + 6 ≤ 601024) (hsl : slots + 2007 ≤ 7293034) (hI : lw_I D cs s.heap.size ea a b ol od H) (hS : va_S (SA s.heap.size) s.heap H locs) (hl : lv_has ls 9 [(0, .ref b9), (1, .ref (a 0)), (2, .ref (b 0)), (3, .ref ol), (4, .ref od), (5, .int (nI (4 * j)))])
    (kk : ∀ (H : Heap) (locs : List Loc) (ls : Array Slot), lw_I D cs s.heap.size ea a b ol od H → va_S (SA s.heap.size) s.heap H locs → lv_has ls 9 [(0, .ref b9), (1, .ref (a 0)), (2, .ref (b 0)), (3, .ref ol), (4, .ref od), (5, .int (nI (4 * j)))] → W p l e room_1 s m #[Value.ref b9] below meth c H locs (cells + 6) (slots + 2007) (lw_Z below #[Value.ref b9] s) (F0 m 1612 ls [])) : W p l e room_1 s m #[Value.ref b9] below meth c H locs cells slots (lw_Z below #[Value.ref b9] s) (F0 m 1585 ls []) := by
  obtain ⟨hx, hb, hr, hml, hown, hts0, hX, hbl, hlocks, hgv⟩ := C0
  obtain ⟨hK, hE, hN, hA9⟩ := E0
  obtain ⟨σ, u, w, th, f1, f2, O, hW, hXF, hMF⟩ := hI
  have hb : c.code = cL_law := hb
  have hown : s.vm.findClass RL = some m.cls := hown
  have hts : ∀ w ∈ wsL_law, w.before #[Value.ref b9] s = true := fun w h => hts0 w (wsL_law_in w h)
  have hok := hXF.2.2.2.2.2.2.2.2
  have hn1 := hok.2.1.1
  have hn2 := hok.2.2.1.1
  have hn3 := hok.2.2.2.1.1
  have hRc : room_1.cells = 601024 := rfl
  have hRs : room_1.slots = 7293034 := rfl
  refine lv_aload_n hx hb dL_law_1585 rfl (lv_at hl 1 rfl) ?_
  have hW1 := LW.cls hW
  have hxh := XH.of (D := D) (XW.push hW1) ((hXF.toL (od := od) (f2 := f2) (b := b) (w := mkW w) (th := th) (σm := σ)).more m_cons)
  refine z_ceV (As := []) (rest := []) ⟨hx, hb, hml, hown, hts⟩ (c_X2_installedLength l D cs s.heap.size ea mi sa a u σ) (cwV 0 hts gL_law_X2_installedLength rfl rfl rfl (by decide +kernel) ⟨Nat.le_of_ble_eq_true rfl, Nat.le_of_ble_eq_true rfl⟩) hxh.1 rfl hxh hK hE hS rfl hl.1 rfl (Nat.le_of_ble_eq_true rfl) dL_law_1586 ⟨by rw [hRc]; omega, by rw [hRs]; omega⟩ (fun r hq9 => ?_)
  have hq9 : r = nI σ.2.2.2.1.length := hq9
  rw [hq9]
  refine lv_aload_n hx hb dL_law_1589 rfl (lv_at hl 2 rfl) ?_
  have hW1 := LW.mdl hW
  refine z_cmI (va_runV (As := []) (rest := [.int (nI σ.2.2.2.1.length)]) ⟨hx, hb, hml, hown, hts⟩ (c_X3_installedLength l D cs s.heap.size _ b w σ (hMF.toL (a := a) (ol := ol) (od := od) (f1 := f1) (f2 := f2) (u' := mkU u) (σc := σ)) th) (cwV 0 hts gL_law_X3_installedLength rfl rfl rfl (by decide +kernel) ⟨Nat.le_of_ble_eq_true rfl, Nat.le_of_ble_eq_true rfl⟩) ⟨zM_blind, z_recv hK (hW1.1 0 _ rfl) rfl, zM_pre hW1 hK hA9⟩ rfl rfl hl.1 rfl (lv_room (Nat.le_of_ble_eq_true rfl)) dL_law_1590 ⟨by rw [hRc]; omega, by rw [hRs]; omega⟩) hS (fun r v2 H locs hu4 hW hS => ?_)
  obtain ⟨hu5, hu6⟩ := hu4
  have hm0 : At D (b 0) (.inr (4, [.int (nI 0), .int (nI σ.1.length), .ref (b 1), .int (nI σ.2.1.length), .ref (b 2), .int (nI σ.2.2.1.length), .ref (b 3), .ref (b 4), .ref (b 5), .ref (mI v2.1), .int (nI σ.2.2.2.2.length), .ref (b 6)])) H := hW.1 0 _ rfl
  have hW := LW.mret hW
  have hMF := hu6.ofL
  have hXF := hXF.mk.more (Y' := v2.2 ++ (O)) (fun q9 h9 => List.mem_append_right _ h9)
  have hW : Wd D s.heap.size (LW cs a b ol od (mkU u) σ v2.1 (nI 0) σ f1 f2 (v2.2 ++ (O))) H := hW
  rw [hu5 rfl]
  refine z_icmp_eq (tgt := 1612) hx hb (by omega) (by omega) dL_law_1593 (by decide) (fun hc1593 => ?_) (fun hc1593 => ?_)
  · skip
    have hc1593 : σ.2.2.2.1.length = σ.2.2.2.1.length := hc1593
    refine W.widen (k := cells + 6) (n := slots + 2007) (by omega) (by omega) ?_
    exact kk H locs ls ⟨σ, (mkU u), v2.1, nI 0, f1, f2, v2.2 ++ (O), hW, hXF, hMF⟩ hS (lv_sub hl [0, 1, 2, 3, 4, 5] rfl)
  · skip
    have hc1593 : ¬ σ.2.2.2.1.length = σ.2.2.2.1.length := hc1593
    exact absurd rfl hc1593

set_option maxHeartbeats 4000000 in
set_option maxRecDepth 100000 in
theorem law_24 {p : Program} {l : Launch} {e : Env} {s : State} {m : MethodId} {below : List Frame} {meth : Method} {c : Code} {b9 L : Nat} {xs : Nat → Int32} (hfl : l.stackTraces = false) (hL : L ≤ 2048) (C0 : lw_At p s m meth c b9 L xs) {D : va_G} {cs : Nat → ClassId} {ea mi : Nat} {sa : Nat → Nat} (E0 : lw_E D cs ea mi sa s) {a b : Nat → Nat} {ol od j cells slots : Nat} {H : Heap} {locs : List Loc} {ls : Array Slot} (hj : 4 * j + 4 ≤ L) (hcl : cells + 6 ≤ 601024) (hsl : slots + 2007 ≤ 7293034) (hI : lw_I D cs s.heap.size ea a b ol od H) (hS : va_S (SA s.heap.size) s.heap H locs) (hl : lv_has ls 9 [(0, .ref b9), (1, .ref (a 0)), (2, .ref (b 0)), (3, .ref ol), (4, .ref od), (5, .int (nI (4 * j)))])
    (kk : ∀ (H : Heap) (locs : List Loc) (ls : Array Slot), lw_I D cs s.heap.size ea a b ol od H → va_S (SA s.heap.size) s.heap H locs → lv_has ls 9 [(0, .ref b9), (1, .ref (a 0)), (2, .ref (b 0)), (3, .ref ol), (4, .ref od), (5, .int (nI (4 * j)))] → W p l e room_1 s m #[Value.ref b9] below meth c H locs (cells + 6) (slots + 2007) (lw_Z below #[Value.ref b9] s) (F0 m 1612 ls [])) : W p l e room_1 s m #[Value.ref b9] below meth c H locs cells slots (lw_Z below #[Value.ref b9] s) (F0 m 1598 ls []) := by
  obtain ⟨hx, hb, hr, hml, hown, hts0, hX, hbl, hlocks, hgv⟩ := C0
  obtain ⟨hK, hE, hN, hA9⟩ := E0
  obtain ⟨σ, u, w, th, f1, f2, O, hW, hXF, hMF⟩ := hI
  have hb : c.code = cL_law := hb
  have hown : s.vm.findClass RL = some m.cls := hown
  have hts : ∀ w ∈ wsL_law, w.before #[Value.ref b9] s = true := fun w h => hts0 w (wsL_law_in w h)
  have hok := hXF.2.2.2.2.2.2.2.2
  have hn1 := hok.2.1.1
  have hn2 := hok.2.2.1.1
  have hn3 := hok.2.2.2.1.1
  have hRc : room_1.cells = 601024 := rfl
  have hRs : room_1.slots = 7293034 := rfl
  refine lv_aload_n hx hb dL_law_1598 rfl (lv_at hl 1 rfl) ?_
  have hW1 := LW.cls hW
  have hxh := XH.of (D := D) (XW.push hW1) ((hXF.toL (od := od) (f2 := f2) (b := b) (w := mkW w) (th := th) (σm := σ)).more m_cons)
  refine z_celV (As := []) (rest := []) ⟨hx, hb, hml, hown, hts⟩ (c_X2_digest l D cs s.heap.size ea mi sa a u σ) (cwV 0 hts gL_law_X2_digest rfl rfl rfl (by decide +kernel) ⟨Nat.le_of_ble_eq_true rfl, Nat.le_of_ble_eq_true rfl⟩) hxh.1 rfl hxh hK hE hS rfl hl.1 rfl (Nat.le_of_ble_eq_true rfl) dL_law_1599 ⟨by rw [hRc]; omega, by rw [hRs]; omega⟩ (fun r hq9 => ?_)
  have hq9 : r = dgS σ := hq9
  rw [hq9]
  refine lv_aload_n hx hb dL_law_1602 rfl (lv_at hl 2 rfl) ?_
  have hW1 := LW.mdl hW
  refine z_cmL (va_runV (As := []) (rest := [.long (dgS σ)]) ⟨hx, hb, hml, hown, hts⟩ (c_X3_digest l D cs s.heap.size _ b w σ (hMF.toL (a := a) (ol := ol) (od := od) (f1 := f1) (f2 := f2) (u' := mkU u) (σc := σ)) th) (cwV 0 hts gL_law_X3_digest rfl rfl rfl (by decide +kernel) ⟨Nat.le_of_ble_eq_true rfl, Nat.le_of_ble_eq_true rfl⟩) ⟨zM_blind, z_recv hK (hW1.1 0 _ rfl) rfl, zM_pre hW1 hK hA9⟩ rfl rfl hl.1 rfl (lv_room (Nat.le_of_ble_eq_true rfl)) dL_law_1603 ⟨by rw [hRc]; omega, by rw [hRs]; omega⟩) hS (fun r v2 H locs hu4 hW hS => ?_)
  obtain ⟨hu5, hu6⟩ := hu4
  have hm0 : At D (b 0) (.inr (4, [.int (nI 0), .int (nI σ.1.length), .ref (b 1), .int (nI σ.2.1.length), .ref (b 2), .int (nI σ.2.2.1.length), .ref (b 3), .ref (b 4), .ref (b 5), .ref (mI v2.1), .int (nI σ.2.2.2.2.length), .ref (b 6)])) H := hW.1 0 _ rfl
  have hW := LW.mret hW
  have hMF := hu6.ofL
  have hXF := hXF.mk.more (Y' := v2.2 ++ (O)) (fun q9 h9 => List.mem_append_right _ h9)
  have hW : Wd D s.heap.size (LW cs a b ol od (mkU u) σ v2.1 (nI 0) σ f1 f2 (v2.2 ++ (O))) H := hW
  rw [hu5]
  refine W.lcmp hx hb dL_law_1606 ?_
  refine zti (lg_sameN _) (y := nI 0) ?_
  refine lv_if_eq (tgt := 1612) hx hb dL_law_1607 (by decide) (fun _ => ?_) (fun h9 => absurd (by decide) h9)
  refine W.widen (k := cells + 6) (n := slots + 2007) (by omega) (by omega) ?_
  exact kk H locs ls ⟨σ, (mkU u), v2.1, nI 0, f1, f2, v2.2 ++ (O), hW, hXF, hMF⟩ hS (lv_sub hl [0, 1, 2, 3, 4, 5] rfl)
