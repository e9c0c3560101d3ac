/-! the law's calls -/
theorem lg_sameN (x : Int64) : lg_cmp x x = nI 0 := (lg_same x).trans nI_0.symm

set_option maxHeartbeats 4000000 in
set_option maxRecDepth 100000 in
theorem law_0 {p : Program} {l : Launch} {e : Env} {s : State} {m : MethodId} {below : List Frame} {meth : Method} {c : Code} {b9 L : Nat} {xs : Nat → Int32} (hfl : l.stackTraces = false) (hL : L ≤ 2048) (C0 : lw_At p s m meth c b9 L xs) {D : va_G} {cs : Nat → ClassId} {ea mi : Nat} {sa : Nat → Nat} (E0 : lw_E D cs ea mi sa s) {a b : Nat → Nat} {ol od j cells slots : Nat} {H : Heap} {locs : List Loc} {ls : Array Slot} (hj : 4 * j + 4 ≤ L) (hcl : cells + 6 ≤ 601024) (hsl : slots + 2007 ≤ 7293034) (hI : lw_I D cs s.heap.size ea a b ol od H) (hS : va_S (SA s.heap.size) s.heap H locs) (hl : lv_has ls 9 [(0, .ref b9), (1, .ref (a 0)), (2, .ref (b 0)), (3, .ref ol), (4, .ref od), (5, .int (nI (4 * j)))])
    (kk : ∀ (H : Heap) (locs : List Loc) (ls : Array Slot), lw_I D cs s.heap.size ea a b ol od H → va_S (SA s.heap.size) s.heap H locs → lv_has ls 9 [(0, .ref b9), (1, .ref (a 0)), (2, .ref (b 0)), (3, .ref ol), (4, .ref od), (5, .int (nI (4 * j)))] → W p l e room_1 s m #[Value.ref b9] below meth c H locs (cells + 6) (slots + 2007) (lw_Z below #[Value.ref b9] s) (F0 m 1612 ls [])) : W p l e room_1 s m #[Value.ref b9] below meth c H locs cells slots (lw_Z below #[Value.ref b9] s) (F0 m 160 ls []) := by
  obtain ⟨hx, hb, hr, hml, hown, hts0, hX, hbl, hlocks, hgv⟩ := C0
  obtain ⟨hK, hE, hN, hA9⟩ := E0
  obtain ⟨σ, u, w, th, f1, f2, O, hW, hXF, hMF⟩ := hI
  have hb : c.code = cL_law := hb
  have hown : s.vm.findClass RL = some m.cls := hown
  have hts : ∀ w ∈ wsL_law, w.before #[Value.ref b9] s = true := fun w h => hts0 w (wsL_law_in w h)
  have hok := hXF.2.2.2.2.2.2.2.2
  have hn1 := hok.2.1.1
  have hn2 := hok.2.2.1.1
  have hn3 := hok.2.2.2.1.1
  have hRc : room_1.cells = 601024 := rfl
  have hRs : room_1.slots = 7293034 := rfl
  refine lv_aload_n hx hb dL_law_160 rfl (lv_at hl 1 rfl) ?_
  refine lv_aload_n hx hb dL_law_161 rfl (lv_at hl 0 rfl) ?_
  refine lv_iload hx hb dL_law_162 (lv_at hl 5 rfl) ?_
  refine lv_iconst (v := nI 1) hx hb dL_law_164 (by decide) ?_
  refine lv_iadd hx hb dL_law_165 ?_
  refine zti (nI_add _ _) (y := nI (4 * j + 1)) ?_
  refine z_sld (k := (4 * j + 1)) hx hb hX hbl hS (by omega) hL dL_law_166 ?_
  refine lv_i2l (v := (xs (4 * j + 1)).toInt64) hx hb dL_law_167 rfl ?_
  refine lv_bipush (v := nI 32) hx hb dL_law_168 (by decide) ?_
  refine lv_lshl (v := ((xs (4 * j + 1)).toInt64) <<< ((nI 32).toInt64 &&& 63)) hx hb dL_law_170 rfl ?_
  refine lv_aload_n hx hb dL_law_171 rfl (lv_at hl 0 rfl) ?_
  refine lv_iload hx hb dL_law_172 (lv_at hl 5 rfl) ?_
  refine lv_iconst (v := nI 2) hx hb dL_law_174 (by decide) ?_
  refine lv_iadd hx hb dL_law_175 ?_
  refine zti (nI_add _ _) (y := nI (4 * j + 2)) ?_
  refine z_sld (k := (4 * j + 2)) hx hb hX hbl hS (by omega) hL dL_law_176 ?_
  refine lv_i2l (v := (xs (4 * j + 2)).toInt64) hx hb dL_law_177 rfl ?_
  refine lv_ldc2 (v := 4294967295) hx hb hown (hts (.constantLong RL 90 (4294967295)) (by decide +kernel)) dL_law_178 ?_
  refine lv_land hx hb dL_law_181 ?_
  refine lv_lor hx hb dL_law_182 ?_
  refine lv_aload_n hx hb dL_law_183 rfl (lv_at hl 0 rfl) ?_
  refine lv_iload hx hb dL_law_184 (lv_at hl 5 rfl) ?_
  refine lv_iconst (v := nI 3) hx hb dL_law_186 (by decide) ?_
  refine lv_iadd hx hb dL_law_187 ?_
  refine zti (nI_add _ _) (y := nI (4 * j + 3)) ?_
  refine z_sld (k := (4 * j + 3)) hx hb hX hbl hS (by omega) hL dL_law_188 ?_
  refine lv_aload_n hx hb dL_law_189 rfl (lv_at hl 3 rfl) ?_
  obtain ⟨k9, R9, τ9, hk9, hc1, hc2⟩ := bo_feed l hfl σ hXF.2.2.2.2.2.2.2.2 ((((xs (4 * j + 1)).toInt64) <<< ((nI 32).toInt64 &&& 63)) ||| (((xs (4 * j + 2)).toInt64) &&& 4294967295)) (xs (4 * j + 3))
  have hW1 := LW.cls hW
  refine z_cmI (vx_runSW (As := [.ref (a 0), .long ((((xs (4 * j + 1)).toInt64) <<< ((nI 32).toInt64 &&& 63)) ||| (((xs (4 * j + 2)).toInt64) &&& 4294967295)), .int (xs (4 * j + 3)), .ref ol]) (rest := []) ⟨hx, hb, hml, hown, hts⟩ (hc1 D cs s.heap.size ea mi sa _ a u ol f1 (hXF.toL (b := b) (w := mkW w) (th := th) (σm := σ) (od := od) (f2 := f2))) (vx_cwSW 4 hts gL_law_L_feed rfl rfl rfl (by decide +kernel) ⟨Nat.le_of_ble_eq_true rfl, Nat.le_of_ble_eq_true rfl⟩) ⟨zN_blind, zN_pre hW1 hK hE hN hS⟩ rfl rfl hl.1 rfl (lv_room (Nat.le_of_ble_eq_true rfl)) dL_law_190 ⟨by rw [hRc]; omega, by rw [hRs]; omega⟩) hS (fun r v H locs hu hW hS => ?_)
  obtain ⟨hu1, hu2, hu3⟩ := hu
  rw [hu1]
  have hW := LW.ret hW
  have hXF := hu3.ofL
  have hMF := (hMF.mk).more (Z' := v.2.1 ++ O) (fun q9 h9 => List.mem_append_right _ h9)
  have hW : Wd D s.heap.size (LW cs a b ol od v.1 τ9 (mkW w) th σ v.2.2 f2 (v.2.1 ++ O)) H := hW
  refine lv_istore (lv' := [(6, .int (nI k9)), (0, .ref b9), (1, .ref (a 0)), (2, .ref (b 0)), (3, .ref ol), (4, .ref od), (5, .int (nI (4 * j)))]) hx hb dL_law_193 hl (by decide) rfl (fun ls hl => ?_)
  refine lv_aload_n hx hb dL_law_195 rfl (lv_at hl 3 rfl) ?_
  refine lv_aload_n hx hb dL_law_196 rfl (lv_at hl 1 rfl) ?_
  refine lv_iload hx hb dL_law_197 (lv_at hl 6 rfl) ?_
  refine lv_iconst (v := nI 1) hx hb dL_law_199 (by decide) ?_
  refine lv_iadd hx hb dL_law_200 ?_
  refine zti (nI_add _ _) (y := nI (4 * j + 1)) ?_
  refine z_sld (k := (4 * j + 1)) hx hb hX hbl hS (by omega) hL dL_law_201 ?_
  refine lv_i2l (v := (xs (4 * j + 1)).toInt64) hx hb dL_law_202 rfl ?_
  refine lv_bipush (v := nI 32) hx hb dL_law_203 (by decide) ?_
  refine lv_lshl (v := ((xs (4 * j + 1)).toInt64) <<< ((nI 32).toInt64 &&& 63)) hx hb dL_law_205 rfl ?_
  refine lv_aload_n hx hb dL_law_206 rfl (lv_at hl 1 rfl) ?_
  refine lv_iload hx hb dL_law_207 (lv_at hl 6 rfl) ?_
  refine lv_iconst (v := nI 2) hx hb dL_law_209 (by decide) ?_
  refine lv_iadd hx hb dL_law_210 ?_
  refine zti (nI_add _ _) (y := nI (4 * j + 2)) ?_
  refine z_sld (k := (4 * j + 2)) hx hb hX hbl hS (by omega) hL dL_law_211 ?_
  refine lv_i2l (v := (xs (4 * j + 2)).toInt64) hx hb dL_law_212 rfl ?_
  refine lv_ldc2 (v := 4294967295) hx hb hown (hts (.constantLong RL 90 (4294967295)) (by decide +kernel)) dL_law_213 ?_
  refine lv_land hx hb dL_law_216 ?_
  refine lv_lor hx hb dL_law_217 ?_
  refine lv_aload_n hx hb dL_law_218 rfl (lv_at hl 1 rfl) ?_
  refine lv_iload hx hb dL_law_219 (lv_at hl 6 rfl) ?_
  refine lv_iconst (v := nI 3) hx hb dL_law_221 (by decide) ?_
  refine lv_iadd hx hb dL_law_222 ?_
  refine zti (nI_add _ _) (y := nI (4 * j + 3)) ?_
  refine z_sld (k := (4 * j + 3)) hx hb hX hbl hS (by omega) hL dL_law_223 ?_
  have hW1 := LW.mdl hW
  refine z_cmI (va_runV (As := [.long ((((xs (4 * j + 1)).toInt64) <<< ((nI 32).toInt64 &&& 63)) ||| (((xs (4 * j + 2)).toInt64) &&& 4294967295)), .int (xs (4 * j + 3))]) (rest := []) ⟨hx, hb, hml, hown, hts⟩ (hc2 D cs s.heap.size _ b (mkW w) th (hMF.toL (cs := cs) (a := a) (ol := ol) (od := od) (f1 := v.2.2) (f2 := f2) (u' := mkU v.1) (σc := τ9))) (cwV 2 hts gL_law_X3_feed rfl rfl rfl (by decide +kernel) ⟨Nat.le_of_ble_eq_true rfl, Nat.le_of_ble_eq_true rfl⟩) ⟨zM_blind, z_recv hK (hW1.1 0 _ rfl) rfl, zM_pre hW1 hK hA9⟩ rfl rfl hl.1 rfl (lv_room (Nat.le_of_ble_eq_true rfl)) dL_law_224 ⟨by rw [hRc]; omega, by rw [hRs]; omega⟩) hS (fun r v2 H locs hu4 hW hS => ?_)
  obtain ⟨hu5, hu6⟩ := hu4
  have hm0 : At D (b 0) (.inr (4, [.int (nI k9), .int (nI τ9.1.length), .ref (b 1), .int (nI τ9.2.1.length), .ref (b 2), .int (nI τ9.2.2.1.length), .ref (b 3), .ref (b 4), .ref (b 5), .ref (mI v2.1), .int (nI τ9.2.2.2.2.length), .ref (b 6)])) H := hW.1 0 _ rfl
  have hW := LW.mret hW
  have hMF := hu6.ofL
  have hXF := hXF.mk.more (Y' := v2.2 ++ (v.2.1 ++ O)) (fun q9 h9 => List.mem_append_right _ h9)
  have hW : Wd D s.heap.size (LW cs a b ol od (mkU v.1) τ9 v2.1 (nI k9) τ9 v.2.2 f2 (v2.2 ++ (v.2.1 ++ O))) H := hW
  refine lv_istore (lv' := [(7, .int r), (6, .int (nI k9)), (0, .ref b9), (1, .ref (a 0)), (2, .ref (b 0)), (3, .ref ol), (4, .ref od), (5, .int (nI (4 * j)))]) hx hb dL_law_227 hl (by decide) rfl (fun ls hl => ?_)
  refine lv_aload_n hx hb dL_law_229 rfl (lv_at hl 4 rfl) ?_
  refine z_csV (As := []) (rest := []) ⟨hx, hb, hml, hown, hts⟩ (c_X3_thrown l D cs (b 0) [.int (nI k9), .int (nI τ9.1.length), .ref (b 1), .int (nI τ9.2.1.length), .ref (b 2), .int (nI τ9.2.2.1.length), .ref (b 3), .ref (b 4), .ref (b 5), .ref (mI v2.1), .int (nI τ9.2.2.2.2.length), .ref (b 6)] (nI k9) rfl) (cwV 0 hts gL_law_X3_thrown rfl rfl rfl (by decide +kernel) ⟨Nat.le_of_ble_eq_true rfl, Nat.le_of_ble_eq_true rfl⟩) hm0 rfl hm0 hK rfl hl.1 rfl (Nat.le_of_ble_eq_true rfl) dL_law_230 ⟨by rw [hRc]; omega, by rw [hRs]; omega⟩ (fun r hq9 => ?_)
  have hq9 : r = nI k9 := hq9
  rw [hq9]
  refine lv_iload hx hb dL_law_233 (lv_at hl 1 rfl) ?_
  refine z_icmp_eq (tgt := 240) hx hb (by omega) (by omega) dL_law_235 (by decide) (fun hc235 => ?_) (fun hc235 => ?_)
  · skip
    have hc235 : k9 = k9 := hc235
    refine lv_iload hx hb dL_law_240 (lv_at hl 1 rfl) ?_
    refine z_ifn_ne (tgt := 257) hx hb (by omega) dL_law_242 (by decide) (fun hc242 => ?_) (fun hc242 => ?_)
    · skip
      have hc242 : ¬ k9 = 0 := hc242
      refine lv_goto (tgt := 1612) hx hb dL_law_257 (by decide) ?_
      refine W.widen (k := cells + 6) (n := slots + 2007) (by omega) (by omega) ?_
      exact kk H locs ls ⟨τ9, (mkU v.1), v2.1, nI k9, v.2.2, f2, v2.2 ++ (v.2.1 ++ O), hW, hXF, hMF⟩ hS (lv_sub hl [2, 3, 4, 5, 6, 7] rfl)
    · skip
      have hc242 : k9 = 0 := hc242
      rw [hu5 hc242] at hl
      have hl : lv_has ls 9 [(7, .int R9), (6, .int (nI k9)), (0, .ref b9), (1, .ref (a 0)), (2, .ref (b 0)), (3, .ref ol), (4, .ref od), (5, .int (nI (4 * j)))] := hl
      refine lv_aload_n hx hb dL_law_245 rfl (lv_at hl 5 rfl) ?_
      refine lv_iconst (v := nI 0) hx hb dL_law_246 (by decide) ?_
      refine va_lald hx hb hK hW.1 0 3 rfl rfl (vp_in_nI (by decide) (by decide)) dL_law_247 ?_
      rw [show (nI 0).toNatClampNeg = 0 by decide, hu2 hc242]
      refine lv_iload hx hb dL_law_248 (lv_at hl 0 rfl) ?_
      refine lv_i2l (v := R9.toInt64) hx hb dL_law_250 rfl ?_
      refine W.lcmp hx hb dL_law_251 ?_
      refine zti (lg_sameN _) (y := nI 0) ?_
      refine lv_if_eq (tgt := 257) hx hb dL_law_252 (by decide) (fun _ => ?_) (fun h9 => absurd (by decide) h9)
      refine lv_goto (tgt := 1612) hx hb dL_law_257 (by decide) ?_
      refine W.widen (k := cells + 6) (n := slots + 2007) (by omega) (by omega) ?_
      exact kk H locs ls ⟨τ9, (mkU v.1), v2.1, nI k9, v.2.2, f2, v2.2 ++ (v.2.1 ++ O), hW, hXF, hMF⟩ hS (lv_sub hl [2, 3, 4, 5, 6, 7] rfl)
  · skip
    have hc235 : ¬ k9 = k9 := hc235
    exact absurd rfl hc235

set_option maxHeartbeats 4000000 in
set_option maxRecDepth 100000 in
theorem law_1 {p : Program} {l : Launch} {e : Env} {s : State} {m : MethodId} {below : List Frame} {meth : Method} {c : Code} {b9 L : Nat} {xs : Nat → Int32} (hfl : l.stackTraces = false) (hL : L ≤ 2048) (C0 : lw_At p s m meth c b9 L xs) {D : va_G} {cs : Nat → ClassId} {ea mi : Nat} {sa : Nat → Nat} (E0 : lw_E D cs ea mi sa s) {a b : Nat → Nat} {ol od j cells slots : Nat} {H : Heap} {locs : List Loc} {ls : Array Slot} (hj : 4 * j + 4 ≤ L) (hcl : cells + 6 ≤ 601024) (hsl : slots + 2007 ≤ 7293034) (hI : lw_I D cs s.heap.size ea a b ol od H) (hS : va_S (SA s.heap.size) s.heap H locs) (hl : lv_has ls 9 [(0, .ref b9), (1, .ref (a 0)), (2, .ref (b 0)), (3, .ref ol), (4, .ref od), (5, .int (nI (4 * j)))])
    (kk : ∀ (H : Heap) (locs : List Loc) (ls : Array Slot), lw_I D cs s.heap.size ea a b ol od H → va_S (SA s.heap.size) s.heap H locs → lv_has ls 9 [(0, .ref b9), (1, .ref (a 0)), (2, .ref (b 0)), (3, .ref ol), (4, .ref od), (5, .int (nI (4 * j)))] → W p l e room_1 s m #[Value.ref b9] below meth c H locs (cells + 6) (slots + 2007) (lw_Z below #[Value.ref b9] s) (F0 m 1612 ls [])) : W p l e room_1 s m #[Value.ref b9] below meth c H locs cells slots (lw_Z below #[Value.ref b9] s) (F0 m 260 ls []) := by
  obtain ⟨hx, hb, hr, hml, hown, hts0, hX, hbl, hlocks, hgv⟩ := C0
  obtain ⟨hK, hE, hN, hA9⟩ := E0
  obtain ⟨σ, u, w, th, f1, f2, O, hW, hXF, hMF⟩ := hI
  have hb : c.code = cL_law := hb
  have hown : s.vm.findClass RL = some m.cls := hown
  have hts : ∀ w ∈ wsL_law, w.before #[Value.ref b9] s = true := fun w h => hts0 w (wsL_law_in w h)
  have hok := hXF.2.2.2.2.2.2.2.2
  have hn1 := hok.2.1.1
  have hn2 := hok.2.2.1.1
  have hn3 := hok.2.2.2.1.1
  have hRc : room_1.cells = 601024 := rfl
  have hRs : room_1.slots = 7293034 := rfl
  refine lv_aload_n hx hb dL_law_260 rfl (lv_at hl 1 rfl) ?_
  refine lv_aload_n hx hb dL_law_261 rfl (lv_at hl 3 rfl) ?_
  obtain ⟨k9, R9, τ9, hk9, hc1, hc2⟩ := bo_store l hfl σ hXF.2.2.2.2.2.2.2.2 
  have hW1 := LW.cls hW
  refine z_cmI (vx_runSW (As := [.ref (a 0), .ref ol]) (rest := []) ⟨hx, hb, hml, hown, hts⟩ (hc1 D cs s.heap.size ea mi sa _ a u ol f1 (hXF.toL (b := b) (w := mkW w) (th := th) (σm := σ) (od := od) (f2 := f2))) (vx_cwSW 2 hts gL_law_L_store rfl rfl rfl (by decide +kernel) ⟨Nat.le_of_ble_eq_true rfl, Nat.le_of_ble_eq_true rfl⟩) ⟨zN_blind, zN_pre hW1 hK hE hN hS⟩ rfl rfl hl.1 rfl (lv_room (Nat.le_of_ble_eq_true rfl)) dL_law_262 ⟨by rw [hRc]; omega, by rw [hRs]; omega⟩) hS (fun r v H locs hu hW hS => ?_)
  obtain ⟨hu1, hu2, hu3⟩ := hu
  rw [hu1]
  have hW := LW.ret hW
  have hXF := hu3.ofL
  have hMF := (hMF.mk).more (Z' := v.2.1 ++ O) (fun q9 h9 => List.mem_append_right _ h9)
  have hW : Wd D s.heap.size (LW cs a b ol od v.1 τ9 (mkW w) th σ v.2.2 f2 (v.2.1 ++ O)) H := hW
  refine lv_istore (lv' := [(6, .int (nI k9)), (0, .ref b9), (1, .ref (a 0)), (2, .ref (b 0)), (3, .ref ol), (4, .ref od), (5, .int (nI (4 * j)))]) hx hb dL_law_265 hl (by decide) rfl (fun ls hl => ?_)
  refine lv_aload_n hx hb dL_law_267 rfl (lv_at hl 3 rfl) ?_
  have hW1 := LW.mdl hW
  refine z_cmI (va_runV (As := []) (rest := []) ⟨hx, hb, hml, hown, hts⟩ (hc2 D cs s.heap.size _ b (mkW w) th (hMF.toL (cs := cs) (a := a) (ol := ol) (od := od) (f1 := v.2.2) (f2 := f2) (u' := mkU v.1) (σc := τ9))) (cwV 0 hts gL_law_X3_store rfl rfl rfl (by decide +kernel) ⟨Nat.le_of_ble_eq_true rfl, Nat.le_of_ble_eq_true rfl⟩) ⟨zM_blind, z_recv hK (hW1.1 0 _ rfl) rfl, zM_pre hW1 hK hA9⟩ rfl rfl hl.1 rfl (lv_room (Nat.le_of_ble_eq_true rfl)) dL_law_268 ⟨by rw [hRc]; omega, by rw [hRs]; omega⟩) hS (fun r v2 H locs hu4 hW hS => ?_)
  obtain ⟨hu5, hu6⟩ := hu4
  have hm0 : At D (b 0) (.inr (4, [.int (nI k9), .int (nI τ9.1.length), .ref (b 1), .int (nI τ9.2.1.length), .ref (b 2), .int (nI τ9.2.2.1.length), .ref (b 3), .ref (b 4), .ref (b 5), .ref (mI v2.1), .int (nI τ9.2.2.2.2.length), .ref (b 6)])) H := hW.1 0 _ rfl
  have hW := LW.mret hW
  have hMF := hu6.ofL
  have hXF := hXF.mk.more (Y' := v2.2 ++ (v.2.1 ++ O)) (fun q9 h9 => List.mem_append_right _ h9)
  have hW : Wd D s.heap.size (LW cs a b ol od (mkU v.1) τ9 v2.1 (nI k9) τ9 v.2.2 f2 (v2.2 ++ (v.2.1 ++ O))) H := hW
  refine lv_istore (lv' := [(7, .int r), (6, .int (nI k9)), (0, .ref b9), (1, .ref (a 0)), (2, .ref (b 0)), (3, .ref ol), (4, .ref od), (5, .int (nI (4 * j)))]) hx hb dL_law_271 hl (by decide) rfl (fun ls hl => ?_)
  refine lv_aload_n hx hb dL_law_273 rfl (lv_at hl 4 rfl) ?_
  refine z_csV (As := []) (rest := []) ⟨hx, hb, hml, hown, hts⟩ (c_X3_thrown l D cs (b 0) [.int (nI k9), .int (nI τ9.1.length), .ref (b 1), .int (nI τ9.2.1.length), .ref (b 2), .int (nI τ9.2.2.1.length), .ref (b 3), .ref (b 4), .ref (b 5), .ref (mI v2.1), .int (nI τ9.2.2.2.2.length), .ref (b 6)] (nI k9) rfl) (cwV 0 hts gL_law_X3_thrown rfl rfl rfl (by decide +kernel) ⟨Nat.le_of_ble_eq_true rfl, Nat.le_of_ble_eq_true rfl⟩) hm0 rfl hm0 hK rfl hl.1 rfl (Nat.le_of_ble_eq_true rfl) dL_law_274 ⟨by rw [hRc]; omega, by rw [hRs]; omega⟩ (fun r hq9 => ?_)
  have hq9 : r = nI k9 := hq9
  rw [hq9]
  refine lv_iload hx hb dL_law_277 (lv_at hl 1 rfl) ?_
  refine z_icmp_eq (tgt := 284) hx hb (by omega) (by omega) dL_law_279 (by decide) (fun hc279 => ?_) (fun hc279 => ?_)
  · skip
    have hc279 : k9 = k9 := hc279
    refine lv_iload hx hb dL_law_284 (lv_at hl 1 rfl) ?_
    refine z_ifn_ne (tgt := 301) hx hb (by omega) dL_law_286 (by decide) (fun hc286 => ?_) (fun hc286 => ?_)
    · skip
      have hc286 : ¬ k9 = 0 := hc286
      refine lv_goto (tgt := 1612) hx hb dL_law_301 (by decide) ?_
      refine W.widen (k := cells + 6) (n := slots + 2007) (by omega) (by omega) ?_
      exact kk H locs ls ⟨τ9, (mkU v.1), v2.1, nI k9, v.2.2, f2, v2.2 ++ (v.2.1 ++ O), hW, hXF, hMF⟩ hS (lv_sub hl [2, 3, 4, 5, 6, 7] rfl)
    · skip
      have hc286 : k9 = 0 := hc286
      rw [hu5 hc286] at hl
      have hl : lv_has ls 9 [(7, .int R9), (6, .int (nI k9)), (0, .ref b9), (1, .ref (a 0)), (2, .ref (b 0)), (3, .ref ol), (4, .ref od), (5, .int (nI (4 * j)))] := hl
      refine lv_aload_n hx hb dL_law_289 rfl (lv_at hl 5 rfl) ?_
      refine lv_iconst (v := nI 0) hx hb dL_law_290 (by decide) ?_
      refine va_lald hx hb hK hW.1 0 3 rfl rfl (vp_in_nI (by decide) (by decide)) dL_law_291 ?_
      rw [show (nI 0).toNatClampNeg = 0 by decide, hu2 hc286]
      refine lv_iload hx hb dL_law_292 (lv_at hl 0 rfl) ?_
      refine lv_i2l (v := R9.toInt64) hx hb dL_law_294 rfl ?_
      refine W.lcmp hx hb dL_law_295 ?_
      refine zti (lg_sameN _) (y := nI 0) ?_
      refine lv_if_eq (tgt := 301) hx hb dL_law_296 (by decide) (fun _ => ?_) (fun h9 => absurd (by decide) h9)
      refine lv_goto (tgt := 1612) hx hb dL_law_301 (by decide) ?_
      refine W.widen (k := cells + 6) (n := slots + 2007) (by omega) (by omega) ?_
      exact kk H locs ls ⟨τ9, (mkU v.1), v2.1, nI k9, v.2.2, f2, v2.2 ++ (v.2.1 ++ O), hW, hXF, hMF⟩ hS (lv_sub hl [2, 3, 4, 5, 6, 7] rfl)
  · skip
    have hc279 : ¬ k9 = k9 := hc279
    exact absurd rfl hc279

set_option maxHeartbeats 4000000 in
set_option maxRecDepth 100000 in
theorem law_2 {p : Program} {l : Launch} {e : Env} {s : State} {m : MethodId} {below : List Frame} {meth : Method} {c : Code} {b9 L : Nat} {xs : Nat → Int32} (hfl : l.stackTraces = false) (hL : L ≤ 2048) (C0 : lw_At p s m meth c b9 L xs) {D : va_G} {cs : Nat → ClassId} {ea mi : Nat} {sa : Nat → Nat} (E0 : lw_E D cs ea mi sa s) {a b : Nat → Nat} {ol od j cells slots : Nat} {H : Heap} {locs : List Loc} {ls : Array Slot} (hj : 4 * j + 4 ≤ L) (hcl : cells + 6 ≤ 601024) (hsl : slots + 2007 ≤ 7293034) (hI : lw_I D cs s.heap.size ea a b ol od H) (hS : va_S (SA s.heap.size) s.heap H locs) (hl : lv_has ls 9 [(0, .ref b9), (1, .ref (a 0)), (2, .ref (b 0)), (3, .ref ol), (4, .ref od), (5, .int (nI (4 * j)))])
    (kk : ∀ (H : Heap) (locs : List Loc) (ls : Array Slot), lw_I D cs s.heap.size ea a b ol od H → va_S (SA s.heap.size) s.heap H locs → lv_has ls 9 [(0, .ref b9), (1, .ref (a 0)), (2, .ref (b 0)), (3, .ref ol), (4, .ref od), (5, .int (nI (4 * j)))] → W p l e room_1 s m #[Value.ref b9] below meth c H locs (cells + 6) (slots + 2007) (lw_Z below #[Value.ref b9] s) (F0 m 1612 ls [])) : W p l e room_1 s m #[Value.ref b9] below meth c H locs cells slots (lw_Z below #[Value.ref b9] s) (F0 m 304 ls []) := by
  obtain ⟨hx, hb, hr, hml, hown, hts0, hX, hbl, hlocks, hgv⟩ := C0
  obtain ⟨hK, hE, hN, hA9⟩ := E0
  obtain ⟨σ, u, w, th, f1, f2, O, hW, hXF, hMF⟩ := hI
  have hb : c.code = cL_law := hb
  have hown : s.vm.findClass RL = some m.cls := hown
  have hts : ∀ w ∈ wsL_law, w.before #[Value.ref b9] s = true := fun w h => hts0 w (wsL_law_in w h)
  have hok := hXF.2.2.2.2.2.2.2.2
  have hn1 := hok.2.1.1
  have hn2 := hok.2.2.1.1
  have hn3 := hok.2.2.2.1.1
  have hRc : room_1.cells = 601024 := rfl
  have hRs : room_1.slots = 7293034 := rfl
  refine lv_aload_n hx hb dL_law_304 rfl (lv_at hl 1 rfl) ?_
  have hW1 := LW.cls hW
  have hxh := XH.of (D := D) (XW.push hW1) ((hXF.toL (od := od) (f2 := f2) (b := b) (w := mkW w) (th := th) (σm := σ)).more m_cons)
  refine z_ceV (As := []) (rest := []) ⟨hx, hb, hml, hown, hts⟩ (c_X2_versions l D cs s.heap.size ea mi sa a u σ) (cwV 0 hts gL_law_X2_versions rfl rfl rfl (by decide +kernel) ⟨Nat.le_of_ble_eq_true rfl, Nat.le_of_ble_eq_true rfl⟩) hxh.1 rfl hxh hK hE hS rfl hl.1 rfl (Nat.le_of_ble_eq_true rfl) dL_law_305 ⟨by rw [hRc]; omega, by rw [hRs]; omega⟩ (fun r hq9 => ?_)
  have hq9 : r = nI σ.2.1.length := hq9
  rw [hq9]
  refine lv_aload_n hx hb dL_law_308 rfl (lv_at hl 2 rfl) ?_
  have hW1 := LW.mdl hW
  refine z_cmI (va_runV (As := []) (rest := [.int (nI σ.2.1.length)]) ⟨hx, hb, hml, hown, hts⟩ (c_X3_versions l D cs s.heap.size _ b w σ (hMF.toL (a := a) (ol := ol) (od := od) (f1 := f1) (f2 := f2) (u' := mkU u) (σc := σ)) th) (cwV 0 hts gL_law_X3_versions rfl rfl rfl (by decide +kernel) ⟨Nat.le_of_ble_eq_true rfl, Nat.le_of_ble_eq_true rfl⟩) ⟨zM_blind, z_recv hK (hW1.1 0 _ rfl) rfl, zM_pre hW1 hK hA9⟩ rfl rfl hl.1 rfl (lv_room (Nat.le_of_ble_eq_true rfl)) dL_law_309 ⟨by rw [hRc]; omega, by rw [hRs]; omega⟩) hS (fun r v2 H locs hu4 hW hS => ?_)
  obtain ⟨hu5, hu6⟩ := hu4
  have hm0 : At D (b 0) (.inr (4, [.int (nI 0), .int (nI σ.1.length), .ref (b 1), .int (nI σ.2.1.length), .ref (b 2), .int (nI σ.2.2.1.length), .ref (b 3), .ref (b 4), .ref (b 5), .ref (mI v2.1), .int (nI σ.2.2.2.2.length), .ref (b 6)])) H := hW.1 0 _ rfl
  have hW := LW.mret hW
  have hMF := hu6.ofL
  have hXF := hXF.mk.more (Y' := v2.2 ++ (O)) (fun q9 h9 => List.mem_append_right _ h9)
  have hW : Wd D s.heap.size (LW cs a b ol od (mkU u) σ v2.1 (nI 0) σ f1 f2 (v2.2 ++ (O))) H := hW
  rw [hu5 rfl]
  refine z_icmp_eq (tgt := 1612) hx hb (by omega) (by omega) dL_law_312 (by decide) (fun hc312 => ?_) (fun hc312 => ?_)
  · skip
    have hc312 : σ.2.1.length = σ.2.1.length := hc312
    refine W.widen (k := cells + 6) (n := slots + 2007) (by omega) (by omega) ?_
    exact kk H locs ls ⟨σ, (mkU u), v2.1, nI 0, f1, f2, v2.2 ++ (O), hW, hXF, hMF⟩ hS (lv_sub hl [0, 1, 2, 3, 4, 5] rfl)
  · skip
    have hc312 : ¬ σ.2.1.length = σ.2.1.length := hc312
    exact absurd rfl hc312

set_option maxHeartbeats 4000000 in
set_option maxRecDepth 100000 in
theorem law_3 {p : Program} {l : Launch} {e : Env} {s : State} {m : MethodId} {below : List Frame} {meth : Method} {c : Code} {b9 L : Nat} {xs : Nat → Int32} (hfl : l.stackTraces = false) (hL : L ≤ 2048) (C0 : lw_At p s m meth c b9 L xs) {D : va_G} {cs : Nat → ClassId} {ea mi : Nat} {sa : Nat → Nat} (E0 : lw_E D cs ea mi sa s) {a b : Nat → Nat} {ol od j cells slots : Nat} {H : Heap} {locs : List Loc} {ls : Array Slot} (hj : 4 * j + 4 ≤ L) (hcl : cells + 6 ≤ 601024) (hsl : slots + 2007 ≤ 7293034) (hI : lw_I D cs s.heap.size ea a b ol od H) (hS : va_S (SA s.heap.size) s.heap H locs) (hl : lv_has ls 9 [(0, .ref b9), (1, .ref (a 0)), (2, .ref (b 0)), (3, .ref ol), (4, .ref od), (5, .int (nI (4 * j)))])
    (kk : ∀ (H : Heap) (locs : List Loc) (ls : Array Slot), lw_I D cs s.heap.size ea a b ol od H → va_S (SA s.heap.size) s.heap H locs → lv_has ls 9 [(0, .ref b9), (1, .ref (a 0)), (2, .ref (b 0)), (3, .ref ol), (4, .ref od), (5, .int (nI (4 * j)))] → W p l e room_1 s m #[Value.ref b9] below meth c H locs (cells + 6) (slots + 2007) (lw_Z below #[Value.ref b9] s) (F0 m 1612 ls [])) : W p l e room_1 s m #[Value.ref b9] below meth c H locs cells slots (lw_Z below #[Value.ref b9] s) (F0 m 317 ls []) := by
  obtain ⟨hx, hb, hr, hml, hown, hts0, hX, hbl, hlocks, hgv⟩ := C0
  obtain ⟨hK, hE, hN, hA9⟩ := E0
  obtain ⟨σ, u, w, th, f1, f2, O, hW, hXF, hMF⟩ := hI
  have hb : c.code = cL_law := hb
  have hown : s.vm.findClass RL = some m.cls := hown
  have hts : ∀ w ∈ wsL_law, w.before #[Value.ref b9] s = true := fun w h => hts0 w (wsL_law_in w h)
  have hok := hXF.2.2.2.2.2.2.2.2
  have hn1 := hok.2.1.1
  have hn2 := hok.2.2.1.1
  have hn3 := hok.2.2.2.1.1
  have hRc : room_1.cells = 601024 := rfl
  have hRs : room_1.slots = 7293034 := rfl
  refine lv_aload_n hx hb dL_law_317 rfl (lv_at hl 1 rfl) ?_
  refine lv_aload_n hx hb dL_law_318 rfl (lv_at hl 0 rfl) ?_
  refine lv_iload hx hb dL_law_319 (lv_at hl 5 rfl) ?_
  refine lv_iconst (v := nI 1) hx hb dL_law_321 (by decide) ?_
  refine lv_iadd hx hb dL_law_322 ?_
  refine zti (nI_add _ _) (y := nI (4 * j + 1)) ?_
  refine z_sld (k := (4 * j + 1)) hx hb hX hbl hS (by omega) hL dL_law_323 ?_
  refine lv_aload_n hx hb dL_law_324 rfl (lv_at hl 3 rfl) ?_
  obtain ⟨k9, R9, τ9, hk9, hc1, hc2⟩ := bo_length l hfl σ hXF.2.2.2.2.2.2.2.2 (xs (4 * j + 1))
  have hW1 := LW.cls hW
  refine z_cmI (vx_runSW (As := [.ref (a 0), .int (xs (4 * j + 1)), .ref ol]) (rest := []) ⟨hx, hb, hml, hown, hts⟩ (hc1 D cs s.heap.size ea mi sa _ a u ol f1 (hXF.toL (b := b) (w := mkW w) (th := th) (σm := σ) (od := od) (f2 := f2))) (vx_cwSW 3 hts gL_law_L_length rfl rfl rfl (by decide +kernel) ⟨Nat.le_of_ble_eq_true rfl, Nat.le_of_ble_eq_true rfl⟩) ⟨zN_blind, zN_pre hW1 hK hE hN hS⟩ rfl rfl hl.1 rfl (lv_room (Nat.le_of_ble_eq_true rfl)) dL_law_325 ⟨by rw [hRc]; omega, by rw [hRs]; omega⟩) hS (fun r v H locs hu hW hS => ?_)
  obtain ⟨hu1, hu2, hu3⟩ := hu
  rw [hu1]
  have hW := LW.ret hW
  have hXF := hu3.ofL
  have hMF := (hMF.mk).more (Z' := v.2.1 ++ O) (fun q9 h9 => List.mem_append_right _ h9)
  have hW : Wd D s.heap.size (LW cs a b ol od v.1 τ9 (mkW w) th σ v.2.2 f2 (v.2.1 ++ O)) H := hW
  refine lv_istore (lv' := [(6, .int (nI k9)), (0, .ref b9), (1, .ref (a 0)), (2, .ref (b 0)), (3, .ref ol), (4, .ref od), (5, .int (nI (4 * j)))]) hx hb dL_law_328 hl (by decide) rfl (fun ls hl => ?_)
  refine lv_aload_n hx hb dL_law_330 rfl (lv_at hl 3 rfl) ?_
  refine lv_aload_n hx hb dL_law_331 rfl (lv_at hl 1 rfl) ?_
  refine lv_iload hx hb dL_law_332 (lv_at hl 6 rfl) ?_
  refine lv_iconst (v := nI 1) hx hb dL_law_334 (by decide) ?_
  refine lv_iadd hx hb dL_law_335 ?_
  refine zti (nI_add _ _) (y := nI (4 * j + 1)) ?_
  refine z_sld (k := (4 * j + 1)) hx hb hX hbl hS (by omega) hL dL_law_336 ?_
  have hW1 := LW.mdl hW
  refine z_cmI (va_runV (As := [.int (xs (4 * j + 1))]) (rest := []) ⟨hx, hb, hml, hown, hts⟩ (hc2 D cs s.heap.size _ b (mkW w) th (hMF.toL (cs := cs) (a := a) (ol := ol) (od := od) (f1 := v.2.2) (f2 := f2) (u' := mkU v.1) (σc := τ9))) (cwV 1 hts gL_law_X3_length rfl rfl rfl (by decide +kernel) ⟨Nat.le_of_ble_eq_true rfl, Nat.le_of_ble_eq_true rfl⟩) ⟨zM_blind, z_recv hK (hW1.1 0 _ rfl) rfl, zM_pre hW1 hK hA9⟩ rfl rfl hl.1 rfl (lv_room (Nat.le_of_ble_eq_true rfl)) dL_law_337 ⟨by rw [hRc]; omega, by rw [hRs]; omega⟩) hS (fun r v2 H locs hu4 hW hS => ?_)
  obtain ⟨hu5, hu6⟩ := hu4
  have hm0 : At D (b 0) (.inr (4, [.int (nI k9), .int (nI τ9.1.length), .ref (b 1), .int (nI τ9.2.1.length), .ref (b 2), .int (nI τ9.2.2.1.length), .ref (b 3), .ref (b 4), .ref (b 5), .ref (mI v2.1), .int (nI τ9.2.2.2.2.length), .ref (b 6)])) H := hW.1 0 _ rfl
  have hW := LW.mret hW
  have hMF := hu6.ofL
  have hXF := hXF.mk.more (Y' := v2.2 ++ (v.2.1 ++ O)) (fun q9 h9 => List.mem_append_right _ h9)
  have hW : Wd D s.heap.size (LW cs a b ol od (mkU v.1) τ9 v2.1 (nI k9) τ9 v.2.2 f2 (v2.2 ++ (v.2.1 ++ O))) H := hW
  refine lv_istore (lv' := [(7, .int r), (6, .int (nI k9)), (0, .ref b9), (1, .ref (a 0)), (2, .ref (b 0)), (3, .ref ol), (4, .ref od), (5, .int (nI (4 * j)))]) hx hb dL_law_340 hl (by decide) rfl (fun ls hl => ?_)
  refine lv_aload_n hx hb dL_law_342 rfl (lv_at hl 4 rfl) ?_
  refine z_csV (As := []) (rest := []) ⟨hx, hb, hml, hown, hts⟩ (c_X3_thrown l D cs (b 0) [.int (nI k9), .int (nI τ9.1.length), .ref (b 1), .int (nI τ9.2.1.length), .ref (b 2), .int (nI τ9.2.2.1.length), .ref (b 3), .ref (b 4), .ref (b 5), .ref (mI v2.1), .int (nI τ9.2.2.2.2.length), .ref (b 6)] (nI k9) rfl) (cwV 0 hts gL_law_X3_thrown rfl rfl rfl (by decide +kernel) ⟨Nat.le_of_ble_eq_true rfl, Nat.le_of_ble_eq_true rfl⟩) hm0 rfl hm0 hK rfl hl.1 rfl (Nat.le_of_ble_eq_true rfl) dL_law_343 ⟨by rw [hRc]; omega, by rw [hRs]; omega⟩ (fun r hq9 => ?_)
  have hq9 : r = nI k9 := hq9
  rw [hq9]
  refine lv_iload hx hb dL_law_346 (lv_at hl 1 rfl) ?_
  refine z_icmp_eq (tgt := 353) hx hb (by omega) (by omega) dL_law_348 (by decide) (fun hc348 => ?_) (fun hc348 => ?_)
  · skip
    have hc348 : k9 = k9 := hc348
    refine lv_iload hx hb dL_law_353 (lv_at hl 1 rfl) ?_
    refine z_ifn_ne (tgt := 370) hx hb (by omega) dL_law_355 (by decide) (fun hc355 => ?_) (fun hc355 => ?_)
    · skip
      have hc355 : ¬ k9 = 0 := hc355
      refine lv_goto (tgt := 1612) hx hb dL_law_370 (by decide) ?_
      refine W.widen (k := cells + 6) (n := slots + 2007) (by omega) (by omega) ?_
      exact kk H locs ls ⟨τ9, (mkU v.1), v2.1, nI k9, v.2.2, f2, v2.2 ++ (v.2.1 ++ O), hW, hXF, hMF⟩ hS (lv_sub hl [2, 3, 4, 5, 6, 7] rfl)
    · skip
      have hc355 : k9 = 0 := hc355
      rw [hu5 hc355] at hl
      have hl : lv_has ls 9 [(7, .int R9), (6, .int (nI k9)), (0, .ref b9), (1, .ref (a 0)), (2, .ref (b 0)), (3, .ref ol), (4, .ref od), (5, .int (nI (4 * j)))] := hl
      refine lv_aload_n hx hb dL_law_358 rfl (lv_at hl 5 rfl) ?_
      refine lv_iconst (v := nI 0) hx hb dL_law_359 (by decide) ?_
      refine va_lald hx hb hK hW.1 0 3 rfl rfl (vp_in_nI (by decide) (by decide)) dL_law_360 ?_
      rw [show (nI 0).toNatClampNeg = 0 by decide, hu2 hc355]
      refine lv_iload hx hb dL_law_361 (lv_at hl 0 rfl) ?_
      refine lv_i2l (v := R9.toInt64) hx hb dL_law_363 rfl ?_
      refine W.lcmp hx hb dL_law_364 ?_
      refine zti (lg_sameN _) (y := nI 0) ?_
      refine lv_if_eq (tgt := 370) hx hb dL_law_365 (by decide) (fun _ => ?_) (fun h9 => absurd (by decide) h9)
      refine lv_goto (tgt := 1612) hx hb dL_law_370 (by decide) ?_
      refine W.widen (k := cells + 6) (n := slots + 2007) (by omega) (by omega) ?_
      exact kk H locs ls ⟨τ9, (mkU v.1), v2.1, nI k9, v.2.2, f2, v2.2 ++ (v.2.1 ++ O), hW, hXF, hMF⟩ hS (lv_sub hl [2, 3, 4, 5, 6, 7] rfl)
  · skip
    have hc348 : ¬ k9 = k9 := hc348
    exact absurd rfl hc348

set_option maxHeartbeats 4000000 in
set_option maxRecDepth 100000 in
theorem law_4 {p : Program} {l : Launch} {e : Env} {s : State} {m : MethodId} {below : List Frame} {meth : Method} {c : Code} {b9 L : Nat} {xs : Nat → Int32} (hfl : l.stackTraces = false) (hL : L ≤ 2048) (C0 : lw_At p s m meth c b9 L xs) {D : va_G} {cs : Nat → ClassId} {ea mi : Nat} {sa : Nat → Nat} (E0 : lw_E D cs ea mi sa s) {a b : Nat → Nat} {ol od j cells slots : Nat} {H : Heap} {locs : List Loc} {ls : Array Slot} (hj : 4 * j + 4 ≤ L) (hcl : cells + 6 ≤ 601024) (hsl : slots + 2007 ≤ 7293034) (hI : lw_I D cs s.heap.size ea a b ol od H) (hS : va_S (SA s.heap.size) s.heap H locs) (hl : lv_has ls 9 [(0, .ref b9), (1, .ref (a 0)), (2, .ref (b 0)), (3, .ref ol), (4, .ref od), (5, .int (nI (4 * j)))])
    (kk : ∀ (H : Heap) (locs : List Loc) (ls : Array Slot), lw_I D cs s.heap.size ea a b ol od H → va_S (SA s.heap.size) s.heap H locs → lv_has ls 9 [(0, .ref b9), (1, .ref (a 0)), (2, .ref (b 0)), (3, .ref ol), (4, .ref od), (5, .int (nI (4 * j)))] → W p l e room_1 s m #[Value.ref b9] below meth c H locs (cells + 6) (slots + 2007) (lw_Z below #[Value.ref b9] s) (F0 m 1612 ls [])) : W p l e room_1 s m #[Value.ref b9] below meth c H locs cells slots (lw_Z below #[Value.ref b9] s) (F0 m 373 ls []) := by
  obtain ⟨hx, hb, hr, hml, hown, hts0, hX, hbl, hlocks, hgv⟩ := C0
  obtain ⟨hK, hE, hN, hA9⟩ := E0
  obtain ⟨σ, u, w, th, f1, f2, O, hW, hXF, hMF⟩ := hI
  have hb : c.code = cL_law := hb
  have hown : s.vm.findClass RL = some m.cls := hown
  have hts : ∀ w ∈ wsL_law, w.before #[Value.ref b9] s = true := fun w h => hts0 w (wsL_law_in w h)
  have hok := hXF.2.2.2.2.2.2.2.2
  have hn1 := hok.2.1.1
  have hn2 := hok.2.2.1.1
  have hn3 := hok.2.2.2.1.1
  have hRc : room_1.cells = 601024 := rfl
  have hRs : room_1.slots = 7293034 := rfl
  refine lv_aload_n hx hb dL_law_373 rfl (lv_at hl 1 rfl) ?_
  refine lv_aload_n hx hb dL_law_374 rfl (lv_at hl 0 rfl) ?_
  refine lv_iload hx hb dL_law_375 (lv_at hl 5 rfl) ?_
  refine lv_iconst (v := nI 1) hx hb dL_law_377 (by decide) ?_
  refine lv_iadd hx hb dL_law_378 ?_
  refine zti (nI_add _ _) (y := nI (4 * j + 1)) ?_
  refine z_sld (k := (4 * j + 1)) hx hb hX hbl hS (by omega) hL dL_law_379 ?_
  refine lv_aload_n hx hb dL_law_380 rfl (lv_at hl 0 rfl) ?_
  refine lv_iload hx hb dL_law_381 (lv_at hl 5 rfl) ?_
  refine lv_iconst (v := nI 2) hx hb dL_law_383 (by decide) ?_
  refine lv_iadd hx hb dL_law_384 ?_
  refine zti (nI_add _ _) (y := nI (4 * j + 2)) ?_
  refine z_sld (k := (4 * j + 2)) hx hb hX hbl hS (by omega) hL dL_law_385 ?_
  refine lv_aload_n hx hb dL_law_386 rfl (lv_at hl 3 rfl) ?_
  obtain ⟨k9, R9, τ9, hk9, hc1, hc2⟩ := bo_byteAt l hfl σ hXF.2.2.2.2.2.2.2.2 (xs (4 * j + 1)) (xs (4 * j + 2))
  have hW1 := LW.cls hW
  refine z_cmI (vx_runSW (As := [.ref (a 0), .int (xs (4 * j + 1)), .int (xs (4 * j + 2)), .ref ol]) (rest := []) ⟨hx, hb, hml, hown, hts⟩ (hc1 D cs s.heap.size ea mi sa _ a u ol f1 (hXF.toL (b := b) (w := mkW w) (th := th) (σm := σ) (od := od) (f2 := f2))) (vx_cwSW 4 hts gL_law_L_byteAt rfl rfl rfl (by decide +kernel) ⟨Nat.le_of_ble_eq_true rfl, Nat.le_of_ble_eq_true rfl⟩) ⟨zN_blind, zN_pre hW1 hK hE hN hS⟩ rfl rfl hl.1 rfl (lv_room (Nat.le_of_ble_eq_true rfl)) dL_law_387 ⟨by rw [hRc]; omega, by rw [hRs]; omega⟩) hS (fun r v H locs hu hW hS => ?_)
  obtain ⟨hu1, hu2, hu3⟩ := hu
  rw [hu1]
  have hW := LW.ret hW
  have hXF := hu3.ofL
  have hMF := (hMF.mk).more (Z' := v.2.1 ++ O) (fun q9 h9 => List.mem_append_right _ h9)
  have hW : Wd D s.heap.size (LW cs a b ol od v.1 τ9 (mkW w) th σ v.2.2 f2 (v.2.1 ++ O)) H := hW
  refine lv_istore (lv' := [(6, .int (nI k9)), (0, .ref b9), (1, .ref (a 0)), (2, .ref (b 0)), (3, .ref ol), (4, .ref od), (5, .int (nI (4 * j)))]) hx hb dL_law_390 hl (by decide) rfl (fun ls hl => ?_)
  refine lv_aload_n hx hb dL_law_392 rfl (lv_at hl 3 rfl) ?_
  refine lv_aload_n hx hb dL_law_393 rfl (lv_at hl 1 rfl) ?_
  refine lv_iload hx hb dL_law_394 (lv_at hl 6 rfl) ?_
  refine lv_iconst (v := nI 1) hx hb dL_law_396 (by decide) ?_
  refine lv_iadd hx hb dL_law_397 ?_
  refine zti (nI_add _ _) (y := nI (4 * j + 1)) ?_
  refine z_sld (k := (4 * j + 1)) hx hb hX hbl hS (by omega) hL dL_law_398 ?_
  refine lv_aload_n hx hb dL_law_399 rfl (lv_at hl 1 rfl) ?_
  refine lv_iload hx hb dL_law_400 (lv_at hl 6 rfl) ?_
  refine lv_iconst (v := nI 2) hx hb dL_law_402 (by decide) ?_
  refine lv_iadd hx hb dL_law_403 ?_
  refine zti (nI_add _ _) (y := nI (4 * j + 2)) ?_
  refine z_sld (k := (4 * j + 2)) hx hb hX hbl hS (by omega) hL dL_law_404 ?_
  have hW1 := LW.mdl hW
  refine z_cmI (va_runV (As := [.int (xs (4 * j + 1)), .int (xs (4 * j + 2))]) (rest := []) ⟨hx, hb, hml, hown, hts⟩ (hc2 D cs s.heap.size _ b (mkW w) th (hMF.toL (cs := cs) (a := a) (ol := ol) (od := od) (f1 := v.2.2) (f2 := f2) (u' := mkU v.1) (σc := τ9))) (cwV 2 hts gL_law_X3_byteAt rfl rfl rfl (by decide +kernel) ⟨Nat.le_of_ble_eq_true rfl, Nat.le_of_ble_eq_true rfl⟩) ⟨zM_blind, z_recv hK (hW1.1 0 _ rfl) rfl, zM_pre hW1 hK hA9⟩ rfl rfl hl.1 rfl (lv_room (Nat.le_of_ble_eq_true rfl)) dL_law_405 ⟨by rw [hRc]; omega, by rw [hRs]; omega⟩) hS (fun r v2 H locs hu4 hW hS => ?_)
  obtain ⟨hu5, hu6⟩ := hu4
  have hm0 : At D (b 0) (.inr (4, [.int (nI k9), .int (nI τ9.1.length), .ref (b 1), .int (nI τ9.2.1.length), .ref (b 2), .int (nI τ9.2.2.1.length), .ref (b 3), .ref (b 4), .ref (b 5), .ref (mI v2.1), .int (nI τ9.2.2.2.2.length), .ref (b 6)])) H := hW.1 0 _ rfl
  have hW := LW.mret hW
  have hMF := hu6.ofL
  have hXF := hXF.mk.more (Y' := v2.2 ++ (v.2.1 ++ O)) (fun q9 h9 => List.mem_append_right _ h9)
  have hW : Wd D s.heap.size (LW cs a b ol od (mkU v.1) τ9 v2.1 (nI k9) τ9 v.2.2 f2 (v2.2 ++ (v.2.1 ++ O))) H := hW
  refine lv_istore (lv' := [(7, .int r), (6, .int (nI k9)), (0, .ref b9), (1, .ref (a 0)), (2, .ref (b 0)), (3, .ref ol), (4, .ref od), (5, .int (nI (4 * j)))]) hx hb dL_law_408 hl (by decide) rfl (fun ls hl => ?_)
  refine lv_aload_n hx hb dL_law_410 rfl (lv_at hl 4 rfl) ?_
  refine z_csV (As := []) (rest := []) ⟨hx, hb, hml, hown, hts⟩ (c_X3_thrown l D cs (b 0) [.int (nI k9), .int (nI τ9.1.length), .ref (b 1), .int (nI τ9.2.1.length), .ref (b 2), .int (nI τ9.2.2.1.length), .ref (b 3), .ref (b 4), .ref (b 5), .ref (mI v2.1), .int (nI τ9.2.2.2.2.length), .ref (b 6)] (nI k9) rfl) (cwV 0 hts gL_law_X3_thrown rfl rfl rfl (by decide +kernel) ⟨Nat.le_of_ble_eq_true rfl, Nat.le_of_ble_eq_true rfl⟩) hm0 rfl hm0 hK rfl hl.1 rfl (Nat.le_of_ble_eq_true rfl) dL_law_411 ⟨by rw [hRc]; omega, by rw [hRs]; omega⟩ (fun r hq9 => ?_)
  have hq9 : r = nI k9 := hq9
  rw [hq9]
  refine lv_iload hx hb dL_law_414 (lv_at hl 1 rfl) ?_
  refine z_icmp_eq (tgt := 421) hx hb (by omega) (by omega) dL_law_416 (by decide) (fun hc416 => ?_) (fun hc416 => ?_)
  · skip
    have hc416 : k9 = k9 := hc416
    refine lv_iload hx hb dL_law_421 (lv_at hl 1 rfl) ?_
    refine z_ifn_ne (tgt := 438) hx hb (by omega) dL_law_423 (by decide) (fun hc423 => ?_) (fun hc423 => ?_)
    · skip
      have hc423 : ¬ k9 = 0 := hc423
      refine lv_goto (tgt := 1612) hx hb dL_law_438 (by decide) ?_
      refine W.widen (k := cells + 6) (n := slots + 2007) (by omega) (by omega) ?_
      exact kk H locs ls ⟨τ9, (mkU v.1), v2.1, nI k9, v.2.2, f2, v2.2 ++ (v.2.1 ++ O), hW, hXF, hMF⟩ hS (lv_sub hl [2, 3, 4, 5, 6, 7] rfl)
    · skip
      have hc423 : k9 = 0 := hc423
      rw [hu5 hc423] at hl
      have hl : lv_has ls 9 [(7, .int R9), (6, .int (nI k9)), (0, .ref b9), (1, .ref (a 0)), (2, .ref (b 0)), (3, .ref ol), (4, .ref od), (5, .int (nI (4 * j)))] := hl
      refine lv_aload_n hx hb dL_law_426 rfl (lv_at hl 5 rfl) ?_
      refine lv_iconst (v := nI 0) hx hb dL_law_427 (by decide) ?_
      refine va_lald hx hb hK hW.1 0 3 rfl rfl (vp_in_nI (by decide) (by decide)) dL_law_428 ?_
      rw [show (nI 0).toNatClampNeg = 0 by decide, hu2 hc423]
      refine lv_iload hx hb dL_law_429 (lv_at hl 0 rfl) ?_
      refine lv_i2l (v := R9.toInt64) hx hb dL_law_431 rfl ?_
      refine W.lcmp hx hb dL_law_432 ?_
      refine zti (lg_sameN _) (y := nI 0) ?_
      refine lv_if_eq (tgt := 438) hx hb dL_law_433 (by decide) (fun _ => ?_) (fun h9 => absurd (by decide) h9)
      refine lv_goto (tgt := 1612) hx hb dL_law_438 (by decide) ?_
      refine W.widen (k := cells + 6) (n := slots + 2007) (by omega) (by omega) ?_
      exact kk H locs ls ⟨τ9, (mkU v.1), v2.1, nI k9, v.2.2, f2, v2.2 ++ (v.2.1 ++ O), hW, hXF, hMF⟩ hS (lv_sub hl [2, 3, 4, 5, 6, 7] rfl)
  · skip
    have hc416 : ¬ k9 = k9 := hc416
    exact absurd rfl hc416

set_option maxHeartbeats 4000000 in
set_option maxRecDepth 100000 in
theorem law_5 {p : Program} {l : Launch} {e : Env} {s : State} {m : MethodId} {below : List Frame} {meth : Method} {c : Code} {b9 L : Nat} {xs : Nat → Int32} (hfl : l.stackTraces = false) (hL : L ≤ 2048) (C0 : lw_At p s m meth c b9 L xs) {D : va_G} {cs : Nat → ClassId} {ea mi : Nat} {sa : Nat → Nat} (E0 : lw_E D cs ea mi sa s) {a b : Nat → Nat} {ol od j cells slots : Nat} {H : Heap} {locs : List Loc} {ls : Array Slot} (hj : 4 * j + 4 ≤ L) (hcl : cells + 6 ≤ 601024) (hsl : slots + 2007 ≤ 7293034) (hI : lw_I D cs s.heap.size ea a b ol od H) (hS : va_S (SA s.heap.size) s.heap H locs) (hl : lv_has ls 9 [(0, .ref b9), (1, .ref (a 0)), (2, .ref (b 0)), (3, .ref ol), (4, .ref od), (5, .int (nI (4 * j)))])
    (kk : ∀ (H : Heap) (locs : List Loc) (ls : Array Slot), lw_I D cs s.heap.size ea a b ol od H → va_S (SA s.heap.size) s.heap H locs → lv_has ls 9 [(0, .ref b9), (1, .ref (a 0)), (2, .ref (b 0)), (3, .ref ol), (4, .ref od), (5, .int (nI (4 * j)))] → W p l e room_1 s m #[Value.ref b9] below meth c H locs (cells + 6) (slots + 2007) (lw_Z below #[Value.ref b9] s) (F0 m 1612 ls [])) : W p l e room_1 s m #[Value.ref b9] below meth c H locs cells slots (lw_Z below #[Value.ref b9] s) (F0 m 441 ls []) := by
  obtain ⟨hx, hb, hr, hml, hown, hts0, hX, hbl, hlocks, hgv⟩ := C0
  obtain ⟨hK, hE, hN, hA9⟩ := E0
  obtain ⟨σ, u, w, th, f1, f2, O, hW, hXF, hMF⟩ := hI
  have hb : c.code = cL_law := hb
  have hown : s.vm.findClass RL = some m.cls := hown
  have hts : ∀ w ∈ wsL_law, w.before #[Value.ref b9] s = true := fun w h => hts0 w (wsL_law_in w h)
  have hok := hXF.2.2.2.2.2.2.2.2
  have hn1 := hok.2.1.1
  have hn2 := hok.2.2.1.1
  have hn3 := hok.2.2.2.1.1
  have hRc : room_1.cells = 601024 := rfl
  have hRs : room_1.slots = 7293034 := rfl
  refine lv_aload_n hx hb dL_law_441 rfl (lv_at hl 1 rfl) ?_
  refine lv_aload_n hx hb dL_law_442 rfl (lv_at hl 0 rfl) ?_
  refine lv_iload hx hb dL_law_443 (lv_at hl 5 rfl) ?_
  refine lv_iconst (v := nI 1) hx hb dL_law_445 (by decide) ?_
  refine lv_iadd hx hb dL_law_446 ?_
  refine zti (nI_add _ _) (y := nI (4 * j + 1)) ?_
  refine z_sld (k := (4 * j + 1)) hx hb hX hbl hS (by omega) hL dL_law_447 ?_
  refine lv_aload_n hx hb dL_law_448 rfl (lv_at hl 0 rfl) ?_
  refine lv_iload hx hb dL_law_449 (lv_at hl 5 rfl) ?_
  refine lv_iconst (v := nI 2) hx hb dL_law_451 (by decide) ?_
  refine lv_iadd hx hb dL_law_452 ?_
  refine zti (nI_add _ _) (y := nI (4 * j + 2)) ?_
  refine z_sld (k := (4 * j + 2)) hx hb hX hbl hS (by omega) hL dL_law_453 ?_
  refine lv_aload_n hx hb dL_law_454 rfl (lv_at hl 3 rfl) ?_
  obtain ⟨k9, cb, τ9, hk9, hc1, hc2⟩ := bo_areSame l hfl σ hXF.2.2.2.2.2.2.2.2 (xs (4 * j + 1)) (xs (4 * j + 2))
  have hW1 := LW.cls hW
  refine z_cmI (vx_runSW (As := [.ref (a 0), .int (xs (4 * j + 1)), .int (xs (4 * j + 2)), .ref ol]) (rest := []) ⟨hx, hb, hml, hown, hts⟩ (hc1 D cs s.heap.size ea mi sa _ a u ol f1 (hXF.toL (b := b) (w := mkW w) (th := th) (σm := σ) (od := od) (f2 := f2))) (vx_cwSW 4 hts gL_law_L_areSame rfl rfl rfl (by decide +kernel) ⟨Nat.le_of_ble_eq_true rfl, Nat.le_of_ble_eq_true rfl⟩) ⟨zN_blind, zN_pre hW1 hK hE hN hS⟩ rfl rfl hl.1 rfl (lv_room (Nat.le_of_ble_eq_true rfl)) dL_law_455 ⟨by rw [hRc]; omega, by rw [hRs]; omega⟩) hS (fun r v H locs hu hW hS => ?_)
  obtain ⟨hu1, hu2, hu3⟩ := hu
  rw [hu1]
  have hW := LW.ret hW
  have hXF := hu3.ofL
  have hMF := (hMF.mk).more (Z' := v.2.1 ++ O) (fun q9 h9 => List.mem_append_right _ h9)
  have hW : Wd D s.heap.size (LW cs a b ol od v.1 τ9 (mkW w) th σ v.2.2 f2 (v.2.1 ++ O)) H := hW
  refine lv_istore (lv' := [(6, .int (nI k9)), (0, .ref b9), (1, .ref (a 0)), (2, .ref (b 0)), (3, .ref ol), (4, .ref od), (5, .int (nI (4 * j)))]) hx hb dL_law_458 hl (by decide) rfl (fun ls hl => ?_)
  refine lv_aload_n hx hb dL_law_460 rfl (lv_at hl 3 rfl) ?_
  refine lv_aload_n hx hb dL_law_461 rfl (lv_at hl 1 rfl) ?_
  refine lv_iload hx hb dL_law_462 (lv_at hl 6 rfl) ?_
  refine lv_iconst (v := nI 1) hx hb dL_law_464 (by decide) ?_
  refine lv_iadd hx hb dL_law_465 ?_
  refine zti (nI_add _ _) (y := nI (4 * j + 1)) ?_
  refine z_sld (k := (4 * j + 1)) hx hb hX hbl hS (by omega) hL dL_law_466 ?_
  refine lv_aload_n hx hb dL_law_467 rfl (lv_at hl 1 rfl) ?_
  refine lv_iload hx hb dL_law_468 (lv_at hl 6 rfl) ?_
  refine lv_iconst (v := nI 2) hx hb dL_law_470 (by decide) ?_
  refine lv_iadd hx hb dL_law_471 ?_
  refine zti (nI_add _ _) (y := nI (4 * j + 2)) ?_
  refine z_sld (k := (4 * j + 2)) hx hb hX hbl hS (by omega) hL dL_law_472 ?_
  have hW1 := LW.mdl hW
  refine z_cmI (va_runV (As := [.int (xs (4 * j + 1)), .int (xs (4 * j + 2))]) (rest := []) ⟨hx, hb, hml, hown, hts⟩ (hc2 D cs s.heap.size _ b (mkW w) th (hMF.toL (cs := cs) (a := a) (ol := ol) (od := od) (f1 := v.2.2) (f2 := f2) (u' := mkU v.1) (σc := τ9))) (cwV 2 hts gL_law_X3_areSame rfl rfl rfl (by decide +kernel) ⟨Nat.le_of_ble_eq_true rfl, Nat.le_of_ble_eq_true rfl⟩) ⟨zM_blind, z_recv hK (hW1.1 0 _ rfl) rfl, zM_pre hW1 hK hA9⟩ rfl rfl hl.1 rfl (lv_room (Nat.le_of_ble_eq_true rfl)) dL_law_473 ⟨by rw [hRc]; omega, by rw [hRs]; omega⟩) hS (fun r v2 H locs hu4 hW hS => ?_)
  obtain ⟨hu5, hu6⟩ := hu4
  have hm0 : At D (b 0) (.inr (4, [.int (nI k9), .int (nI τ9.1.length), .ref (b 1), .int (nI τ9.2.1.length), .ref (b 2), .int (nI τ9.2.2.1.length), .ref (b 3), .ref (b 4), .ref (b 5), .ref (mI v2.1), .int (nI τ9.2.2.2.2.length), .ref (b 6)])) H := hW.1 0 _ rfl
  have hW := LW.mret hW
  have hMF := hu6.ofL
  have hXF := hXF.mk.more (Y' := v2.2 ++ (v.2.1 ++ O)) (fun q9 h9 => List.mem_append_right _ h9)
  have hW : Wd D s.heap.size (LW cs a b ol od (mkU v.1) τ9 v2.1 (nI k9) τ9 v.2.2 f2 (v2.2 ++ (v.2.1 ++ O))) H := hW
  refine lv_istore (lv' := [(7, .int r), (6, .int (nI k9)), (0, .ref b9), (1, .ref (a 0)), (2, .ref (b 0)), (3, .ref ol), (4, .ref od), (5, .int (nI (4 * j)))]) hx hb dL_law_476 hl (by decide) rfl (fun ls hl => ?_)
  refine lv_aload_n hx hb dL_law_478 rfl (lv_at hl 4 rfl) ?_
  refine z_csV (As := []) (rest := []) ⟨hx, hb, hml, hown, hts⟩ (c_X3_thrown l D cs (b 0) [.int (nI k9), .int (nI τ9.1.length), .ref (b 1), .int (nI τ9.2.1.length), .ref (b 2), .int (nI τ9.2.2.1.length), .ref (b 3), .ref (b 4), .ref (b 5), .ref (mI v2.1), .int (nI τ9.2.2.2.2.length), .ref (b 6)] (nI k9) rfl) (cwV 0 hts gL_law_X3_thrown rfl rfl rfl (by decide +kernel) ⟨Nat.le_of_ble_eq_true rfl, Nat.le_of_ble_eq_true rfl⟩) hm0 rfl hm0 hK rfl hl.1 rfl (Nat.le_of_ble_eq_true rfl) dL_law_479 ⟨by rw [hRc]; omega, by rw [hRs]; omega⟩ (fun r hq9 => ?_)
  have hq9 : r = nI k9 := hq9
  rw [hq9]
  refine lv_iload hx hb dL_law_482 (lv_at hl 1 rfl) ?_
  refine z_icmp_eq (tgt := 489) hx hb (by omega) (by omega) dL_law_484 (by decide) (fun hc484 => ?_) (fun hc484 => ?_)
  · skip
    have hc484 : k9 = k9 := hc484
    refine lv_iload hx hb dL_law_489 (lv_at hl 1 rfl) ?_
    refine z_ifn_ne (tgt := 513) hx hb (by omega) dL_law_491 (by decide) (fun hc491 => ?_) (fun hc491 => ?_)
    · skip
      have hc491 : ¬ k9 = 0 := hc491
      refine lv_goto (tgt := 1612) hx hb dL_law_513 (by decide) ?_
      refine W.widen (k := cells + 6) (n := slots + 2007) (by omega) (by omega) ?_
      exact kk H locs ls ⟨τ9, (mkU v.1), v2.1, nI k9, v.2.2, f2, v2.2 ++ (v.2.1 ++ O), hW, hXF, hMF⟩ hS (lv_sub hl [2, 3, 4, 5, 6, 7] rfl)
    · skip
      have hc491 : k9 = 0 := hc491
      rw [hu5 hc491] at hl
      have hl : lv_has ls 9 [(7, .int (bI cb)), (6, .int (nI k9)), (0, .ref b9), (1, .ref (a 0)), (2, .ref (b 0)), (3, .ref ol), (4, .ref od), (5, .int (nI (4 * j)))] := hl
      refine lv_aload_n hx hb dL_law_494 rfl (lv_at hl 5 rfl) ?_
      refine lv_iconst (v := nI 0) hx hb dL_law_495 (by decide) ?_
      refine va_lald hx hb hK hW.1 0 3 rfl rfl (vp_in_nI (by decide) (by decide)) dL_law_496 ?_
      rw [show (nI 0).toNatClampNeg = 0 by decide, hu2 hc491]
      refine lv_iload hx hb dL_law_497 (lv_at hl 0 rfl) ?_
      refine z_ifb_eq (tgt := 506) hx hb dL_law_499 (by decide) (fun hc499 => ?_) (fun hc499 => ?_)
      · skip
        have hc499 : cb = false := hc499
        refine lv_lconst (v := 0) hx hb dL_law_506 (by decide) ?_
        refine W.lcmp hx hb dL_law_507 ?_
        refine zti (by rw [hc499]; exact lg_sameN _) (y := nI 0) ?_
        refine lv_if_eq (tgt := 513) hx hb dL_law_508 (by decide) (fun _ => ?_) (fun h9 => absurd (by decide) h9)
        refine lv_goto (tgt := 1612) hx hb dL_law_513 (by decide) ?_
        refine W.widen (k := cells + 6) (n := slots + 2007) (by omega) (by omega) ?_
        exact kk H locs ls ⟨τ9, (mkU v.1), v2.1, nI k9, v.2.2, f2, v2.2 ++ (v.2.1 ++ O), hW, hXF, hMF⟩ hS (lv_sub hl [2, 3, 4, 5, 6, 7] rfl)
      · skip
        have hc499 : cb = true := hc499
        refine lv_lconst (v := 1) hx hb dL_law_502 (by decide) ?_
        refine lv_goto (tgt := 507) hx hb dL_law_503 (by decide) ?_
        refine W.lcmp hx hb dL_law_507 ?_
        refine zti (by rw [hc499]; exact lg_sameN _) (y := nI 0) ?_
        refine lv_if_eq (tgt := 513) hx hb dL_law_508 (by decide) (fun _ => ?_) (fun h9 => absurd (by decide) h9)
        refine lv_goto (tgt := 1612) hx hb dL_law_513 (by decide) ?_
        refine W.widen (k := cells + 6) (n := slots + 2007) (by omega) (by omega) ?_
        exact kk H locs ls ⟨τ9, (mkU v.1), v2.1, nI k9, v.2.2, f2, v2.2 ++ (v.2.1 ++ O), hW, hXF, hMF⟩ hS (lv_sub hl [2, 3, 4, 5, 6, 7] rfl)
  · skip
    have hc484 : ¬ k9 = k9 := hc484
    exact absurd rfl hc484

set_option maxHeartbeats 4000000 in
set_option maxRecDepth 100000 in
theorem law_6 {p : Program} {l : Launch} {e : Env} {s : State} {m : MethodId} {below : List Frame} {meth : Method} {c : Code} {b9 L : Nat} {xs : Nat → Int32} (hfl : l.stackTraces = false) (hL : L ≤ 2048) (C0 : lw_At p s m meth c b9 L xs) {D : va_G} {cs : Nat → ClassId} {ea mi : Nat} {sa : Nat → Nat} (E0 : lw_E D cs ea mi sa s) {a b : Nat → Nat} {ol od j cells slots : Nat} {H : Heap} {locs : List Loc} {ls : Array Slot} (hj : 4 * j + 4 ≤ L) (hcl : cells + 6 ≤ 601024) (hsl : slots + 2007 ≤ 7293034) (hI : lw_I D cs s.heap.size ea a b ol od H) (hS : va_S (SA s.heap.size) s.heap H locs) (hl : lv_has ls 9 [(0, .ref b9), (1, .ref (a 0)), (2, .ref (b 0)), (3, .ref ol), (4, .ref od), (5, .int (nI (4 * j)))])
    (kk : ∀ (H : Heap) (locs : List Loc) (ls : Array Slot), lw_I D cs s.heap.size ea a b ol od H → va_S (SA s.heap.size) s.heap H locs → lv_has ls 9 [(0, .ref b9), (1, .ref (a 0)), (2, .ref (b 0)), (3, .ref ol), (4, .ref od), (5, .int (nI (4 * j)))] → W p l e room_1 s m #[Value.ref b9] below meth c H locs (cells + 6) (slots + 2007) (lw_Z below #[Value.ref b9] s) (F0 m 1612 ls [])) : W p l e room_1 s m #[Value.ref b9] below meth c H locs cells slots (lw_Z below #[Value.ref b9] s) (F0 m 516 ls []) := by
  obtain ⟨hx, hb, hr, hml, hown, hts0, hX, hbl, hlocks, hgv⟩ := C0
  obtain ⟨hK, hE, hN, hA9⟩ := E0
  obtain ⟨σ, u, w, th, f1, f2, O, hW, hXF, hMF⟩ := hI
  have hb : c.code = cL_law := hb
  have hown : s.vm.findClass RL = some m.cls := hown
  have hts : ∀ w ∈ wsL_law, w.before #[Value.ref b9] s = true := fun w h => hts0 w (wsL_law_in w h)
  have hok := hXF.2.2.2.2.2.2.2.2
  have hn1 := hok.2.1.1
  have hn2 := hok.2.2.1.1
  have hn3 := hok.2.2.2.1.1
  have hRc : room_1.cells = 601024 := rfl
  have hRs : room_1.slots = 7293034 := rfl
  refine lv_aload_n hx hb dL_law_516 rfl (lv_at hl 1 rfl) ?_
  refine lv_aload_n hx hb dL_law_517 rfl (lv_at hl 0 rfl) ?_
  refine lv_iload hx hb dL_law_518 (lv_at hl 5 rfl) ?_
  refine lv_iconst (v := nI 1) hx hb dL_law_520 (by decide) ?_
  refine lv_iadd hx hb dL_law_521 ?_
  refine zti (nI_add _ _) (y := nI (4 * j + 1)) ?_
  refine z_sld (k := (4 * j + 1)) hx hb hX hbl hS (by omega) hL dL_law_522 ?_
  refine lv_aload_n hx hb dL_law_523 rfl (lv_at hl 0 rfl) ?_
  refine lv_iload hx hb dL_law_524 (lv_at hl 5 rfl) ?_
  refine lv_iconst (v := nI 2) hx hb dL_law_526 (by decide) ?_
  refine lv_iadd hx hb dL_law_527 ?_
  refine zti (nI_add _ _) (y := nI (4 * j + 2)) ?_
  refine z_sld (k := (4 * j + 2)) hx hb hX hbl hS (by omega) hL dL_law_528 ?_
  refine lv_aload_n hx hb dL_law_529 rfl (lv_at hl 0 rfl) ?_
  refine lv_iload hx hb dL_law_530 (lv_at hl 5 rfl) ?_
  refine lv_iconst (v := nI 3) hx hb dL_law_532 (by decide) ?_
  refine lv_iadd hx hb dL_law_533 ?_
  refine zti (nI_add _ _) (y := nI (4 * j + 3)) ?_
  refine z_sld (k := (4 * j + 3)) hx hb hX hbl hS (by omega) hL dL_law_534 ?_
  refine lv_aload_n hx hb dL_law_535 rfl (lv_at hl 3 rfl) ?_
  obtain ⟨k9, R9, τ9, hk9, hc1, hc2⟩ := bo_weakSum l hfl σ hXF.2.2.2.2.2.2.2.2 (xs (4 * j + 1)) (xs (4 * j + 2)) (xs (4 * j + 3))
  have hW1 := LW.cls hW
  refine z_cmI (vx_runSW (As := [.ref (a 0), .int (xs (4 * j + 1)), .int (xs (4 * j + 2)), .int (xs (4 * j + 3)), .ref ol]) (rest := []) ⟨hx, hb, hml, hown, hts⟩ (hc1 D cs s.heap.size ea mi sa _ a u ol f1 (hXF.toL (b := b) (w := mkW w) (th := th) (σm := σ) (od := od) (f2 := f2))) (vx_cwSW 5 hts gL_law_L_weakSum rfl rfl rfl (by decide +kernel) ⟨Nat.le_of_ble_eq_true rfl, Nat.le_of_ble_eq_true rfl⟩) ⟨zN_blind, zN_pre hW1 hK hE hN hS⟩ rfl rfl hl.1 rfl (lv_room (Nat.le_of_ble_eq_true rfl)) dL_law_536 ⟨by rw [hRc]; omega, by rw [hRs]; omega⟩) hS (fun r v H locs hu hW hS => ?_)
  obtain ⟨hu1, hu2, hu3⟩ := hu
  rw [hu1]
  have hW := LW.ret hW
  have hXF := hu3.ofL
  have hMF := (hMF.mk).more (Z' := v.2.1 ++ O) (fun q9 h9 => List.mem_append_right _ h9)
  have hW : Wd D s.heap.size (LW cs a b ol od v.1 τ9 (mkW w) th σ v.2.2 f2 (v.2.1 ++ O)) H := hW
  refine lv_istore (lv' := [(6, .int (nI k9)), (0, .ref b9), (1, .ref (a 0)), (2, .ref (b 0)), (3, .ref ol), (4, .ref od), (5, .int (nI (4 * j)))]) hx hb dL_law_539 hl (by decide) rfl (fun ls hl => ?_)
  refine lv_aload_n hx hb dL_law_541 rfl (lv_at hl 3 rfl) ?_
  refine lv_aload_n hx hb dL_law_542 rfl (lv_at hl 1 rfl) ?_
  refine lv_iload hx hb dL_law_543 (lv_at hl 6 rfl) ?_
  refine lv_iconst (v := nI 1) hx hb dL_law_545 (by decide) ?_
  refine lv_iadd hx hb dL_law_546 ?_
  refine zti (nI_add _ _) (y := nI (4 * j + 1)) ?_
  refine z_sld (k := (4 * j + 1)) hx hb hX hbl hS (by omega) hL dL_law_547 ?_
  refine lv_aload_n hx hb dL_law_548 rfl (lv_at hl 1 rfl) ?_
  refine lv_iload hx hb dL_law_549 (lv_at hl 6 rfl) ?_
  refine lv_iconst (v := nI 2) hx hb dL_law_551 (by decide) ?_
  refine lv_iadd hx hb dL_law_552 ?_
  refine zti (nI_add _ _) (y := nI (4 * j + 2)) ?_
  refine z_sld (k := (4 * j + 2)) hx hb hX hbl hS (by omega) hL dL_law_553 ?_
  refine lv_aload_n hx hb dL_law_554 rfl (lv_at hl 1 rfl) ?_
  refine lv_iload hx hb dL_law_555 (lv_at hl 6 rfl) ?_
  refine lv_iconst (v := nI 3) hx hb dL_law_557 (by decide) ?_
  refine lv_iadd hx hb dL_law_558 ?_
  refine zti (nI_add _ _) (y := nI (4 * j + 3)) ?_
  refine z_sld (k := (4 * j + 3)) hx hb hX hbl hS (by omega) hL dL_law_559 ?_
  have hW1 := LW.mdl hW
  refine z_cmI (va_runV (As := [.int (xs (4 * j + 1)), .int (xs (4 * j + 2)), .int (xs (4 * j + 3))]) (rest := []) ⟨hx, hb, hml, hown, hts⟩ (hc2 D cs s.heap.size _ b (mkW w) th (hMF.toL (cs := cs) (a := a) (ol := ol) (od := od) (f1 := v.2.2) (f2 := f2) (u' := mkU v.1) (σc := τ9))) (cwV 3 hts gL_law_X3_weakSum rfl rfl rfl (by decide +kernel) ⟨Nat.le_of_ble_eq_true rfl, Nat.le_of_ble_eq_true rfl⟩) ⟨zM_blind, z_recv hK (hW1.1 0 _ rfl) rfl, zM_pre hW1 hK hA9⟩ rfl rfl hl.1 rfl (lv_room (Nat.le_of_ble_eq_true rfl)) dL_law_560 ⟨by rw [hRc]; omega, by rw [hRs]; omega⟩) hS (fun r v2 H locs hu4 hW hS => ?_)
  obtain ⟨hu5, hu6⟩ := hu4
  have hm0 : At D (b 0) (.inr (4, [.int (nI k9), .int (nI τ9.1.length), .ref (b 1), .int (nI τ9.2.1.length), .ref (b 2), .int (nI τ9.2.2.1.length), .ref (b 3), .ref (b 4), .ref (b 5), .ref (mI v2.1), .int (nI τ9.2.2.2.2.length), .ref (b 6)])) H := hW.1 0 _ rfl
  have hW := LW.mret hW
  have hMF := hu6.ofL
  have hXF := hXF.mk.more (Y' := v2.2 ++ (v.2.1 ++ O)) (fun q9 h9 => List.mem_append_right _ h9)
  have hW : Wd D s.heap.size (LW cs a b ol od (mkU v.1) τ9 v2.1 (nI k9) τ9 v.2.2 f2 (v2.2 ++ (v.2.1 ++ O))) H := hW
  refine lv_istore (lv' := [(7, .int r), (6, .int (nI k9)), (0, .ref b9), (1, .ref (a 0)), (2, .ref (b 0)), (3, .ref ol), (4, .ref od), (5, .int (nI (4 * j)))]) hx hb dL_law_563 hl (by decide) rfl (fun ls hl => ?_)
  refine lv_aload_n hx hb dL_law_565 rfl (lv_at hl 4 rfl) ?_
  refine z_csV (As := []) (rest := []) ⟨hx, hb, hml, hown, hts⟩ (c_X3_thrown l D cs (b 0) [.int (nI k9), .int (nI τ9.1.length), .ref (b 1), .int (nI τ9.2.1.length), .ref (b 2), .int (nI τ9.2.2.1.length), .ref (b 3), .ref (b 4), .ref (b 5), .ref (mI v2.1), .int (nI τ9.2.2.2.2.length), .ref (b 6)] (nI k9) rfl) (cwV 0 hts gL_law_X3_thrown rfl rfl rfl (by decide +kernel) ⟨Nat.le_of_ble_eq_true rfl, Nat.le_of_ble_eq_true rfl⟩) hm0 rfl hm0 hK rfl hl.1 rfl (Nat.le_of_ble_eq_true rfl) dL_law_566 ⟨by rw [hRc]; omega, by rw [hRs]; omega⟩ (fun r hq9 => ?_)
  have hq9 : r = nI k9 := hq9
  rw [hq9]
  refine lv_iload hx hb dL_law_569 (lv_at hl 1 rfl) ?_
  refine z_icmp_eq (tgt := 576) hx hb (by omega) (by omega) dL_law_571 (by decide) (fun hc571 => ?_) (fun hc571 => ?_)
  · skip
    have hc571 : k9 = k9 := hc571
    refine lv_iload hx hb dL_law_576 (lv_at hl 1 rfl) ?_
    refine z_ifn_ne (tgt := 593) hx hb (by omega) dL_law_578 (by decide) (fun hc578 => ?_) (fun hc578 => ?_)
    · skip
      have hc578 : ¬ k9 = 0 := hc578
      refine lv_goto (tgt := 1612) hx hb dL_law_593 (by decide) ?_
      refine W.widen (k := cells + 6) (n := slots + 2007) (by omega) (by omega) ?_
      exact kk H locs ls ⟨τ9, (mkU v.1), v2.1, nI k9, v.2.2, f2, v2.2 ++ (v.2.1 ++ O), hW, hXF, hMF⟩ hS (lv_sub hl [2, 3, 4, 5, 6, 7] rfl)
    · skip
      have hc578 : k9 = 0 := hc578
      rw [hu5 hc578] at hl
      have hl : lv_has ls 9 [(7, .int R9), (6, .int (nI k9)), (0, .ref b9), (1, .ref (a 0)), (2, .ref (b 0)), (3, .ref ol), (4, .ref od), (5, .int (nI (4 * j)))] := hl
      refine lv_aload_n hx hb dL_law_581 rfl (lv_at hl 5 rfl) ?_
      refine lv_iconst (v := nI 0) hx hb dL_law_582 (by decide) ?_
      refine va_lald hx hb hK hW.1 0 3 rfl rfl (vp_in_nI (by decide) (by decide)) dL_law_583 ?_
      rw [show (nI 0).toNatClampNeg = 0 by decide, hu2 hc578]
      refine lv_iload hx hb dL_law_584 (lv_at hl 0 rfl) ?_
      refine lv_i2l (v := R9.toInt64) hx hb dL_law_586 rfl ?_
      refine W.lcmp hx hb dL_law_587 ?_
      refine zti (lg_sameN _) (y := nI 0) ?_
      refine lv_if_eq (tgt := 593) hx hb dL_law_588 (by decide) (fun _ => ?_) (fun h9 => absurd (by decide) h9)
      refine lv_goto (tgt := 1612) hx hb dL_law_593 (by decide) ?_
      refine W.widen (k := cells + 6) (n := slots + 2007) (by omega) (by omega) ?_
      exact kk H locs ls ⟨τ9, (mkU v.1), v2.1, nI k9, v.2.2, f2, v2.2 ++ (v.2.1 ++ O), hW, hXF, hMF⟩ hS (lv_sub hl [2, 3, 4, 5, 6, 7] rfl)
  · skip
    have hc571 : ¬ k9 = k9 := hc571
    exact absurd rfl hc571

set_option maxHeartbeats 4000000 in
set_option maxRecDepth 100000 in
theorem law_7 {p : Program} {l : Launch} {e : Env} {s : State} {m : MethodId} {below : List Frame} {meth : Method} {c : Code} {b9 L : Nat} {xs : Nat → Int32} (hfl : l.stackTraces = false) (hL : L ≤ 2048) (C0 : lw_At p s m meth c b9 L xs) {D : va_G} {cs : Nat → ClassId} {ea mi : Nat} {sa : Nat → Nat} (E0 : lw_E D cs ea mi sa s) {a b : Nat → Nat} {ol od j cells slots : Nat} {H : Heap} {locs : List Loc} {ls : Array Slot} (hj : 4 * j + 4 ≤ L) (hcl : cells + 6 ≤ 601024) (hsl : slots + 2007 ≤ 7293034) (hI : lw_I D cs s.heap.size ea a b ol od H) (hS : va_S (SA s.heap.size) s.heap H locs) (hl : lv_has ls 9 [(0, .ref b9), (1, .ref (a 0)), (2, .ref (b 0)), (3, .ref ol), (4, .ref od), (5, .int (nI (4 * j)))])
    (kk : ∀ (H : Heap) (locs : List Loc) (ls : Array Slot), lw_I D cs s.heap.size ea a b ol od H → va_S (SA s.heap.size) s.heap H locs → lv_has ls 9 [(0, .ref b9), (1, .ref (a 0)), (2, .ref (b 0)), (3, .ref ol), (4, .ref od), (5, .int (nI (4 * j)))] → W p l e room_1 s m #[Value.ref b9] below meth c H locs (cells + 6) (slots + 2007) (lw_Z below #[Value.ref b9] s) (F0 m 1612 ls [])) : W p l e room_1 s m #[Value.ref b9] below meth c H locs cells slots (lw_Z below #[Value.ref b9] s) (F0 m 596 ls []) := by
  obtain ⟨hx, hb, hr, hml, hown, hts0, hX, hbl, hlocks, hgv⟩ := C0
  obtain ⟨hK, hE, hN, hA9⟩ := E0
  obtain ⟨σ, u, w, th, f1, f2, O, hW, hXF, hMF⟩ := hI
  have hb : c.code = cL_law := hb
  have hown : s.vm.findClass RL = some m.cls := hown
  have hts : ∀ w ∈ wsL_law, w.before #[Value.ref b9] s = true := fun w h => hts0 w (wsL_law_in w h)
  have hok := hXF.2.2.2.2.2.2.2.2
  have hn1 := hok.2.1.1
  have hn2 := hok.2.2.1.1
  have hn3 := hok.2.2.2.1.1
  have hRc : room_1.cells = 601024 := rfl
  have hRs : room_1.slots = 7293034 := rfl
  refine lv_aload_n hx hb dL_law_596 rfl (lv_at hl 1 rfl) ?_
  refine lv_aload_n hx hb dL_law_597 rfl (lv_at hl 0 rfl) ?_
  refine lv_iload hx hb dL_law_598 (lv_at hl 5 rfl) ?_
  refine lv_iconst (v := nI 1) hx hb dL_law_600 (by decide) ?_
  refine lv_iadd hx hb dL_law_601 ?_
  refine zti (nI_add _ _) (y := nI (4 * j + 1)) ?_
  refine z_sld (k := (4 * j + 1)) hx hb hX hbl hS (by omega) hL dL_law_602 ?_
  refine lv_aload_n hx hb dL_law_603 rfl (lv_at hl 0 rfl) ?_
  refine lv_iload hx hb dL_law_604 (lv_at hl 5 rfl) ?_
  refine lv_iconst (v := nI 2) hx hb dL_law_606 (by decide) ?_
  refine lv_iadd hx hb dL_law_607 ?_
  refine zti (nI_add _ _) (y := nI (4 * j + 2)) ?_
  refine z_sld (k := (4 * j + 2)) hx hb hX hbl hS (by omega) hL dL_law_608 ?_
  refine lv_aload_n hx hb dL_law_609 rfl (lv_at hl 3 rfl) ?_
  obtain ⟨k9, R9, τ9, hk9, hc1, hc2⟩ := bo_collisions l hfl σ hXF.2.2.2.2.2.2.2.2 (xs (4 * j + 1)) (xs (4 * j + 2))
  have hW1 := LW.cls hW
  refine z_cmI (vx_runSW (As := [.ref (a 0), .int (xs (4 * j + 1)), .int (xs (4 * j + 2)), .ref ol]) (rest := []) ⟨hx, hb, hml, hown, hts⟩ (hc1 D cs s.heap.size ea mi sa _ a u ol f1 (hXF.toL (b := b) (w := mkW w) (th := th) (σm := σ) (od := od) (f2 := f2))) (vx_cwSW 4 hts gL_law_L_collisions rfl rfl rfl (by decide +kernel) ⟨Nat.le_of_ble_eq_true rfl, Nat.le_of_ble_eq_true rfl⟩) ⟨zN_blind, zN_pre hW1 hK hE hN hS⟩ rfl rfl hl.1 rfl (lv_room (Nat.le_of_ble_eq_true rfl)) dL_law_610 ⟨by rw [hRc]; omega, by rw [hRs]; omega⟩) hS (fun r v H locs hu hW hS => ?_)
  obtain ⟨hu1, hu2, hu3⟩ := hu
  rw [hu1]
  have hW := LW.ret hW
  have hXF := hu3.ofL
  have hMF := (hMF.mk).more (Z' := v.2.1 ++ O) (fun q9 h9 => List.mem_append_right _ h9)
  have hW : Wd D s.heap.size (LW cs a b ol od v.1 τ9 (mkW w) th σ v.2.2 f2 (v.2.1 ++ O)) H := hW
  refine lv_istore (lv' := [(6, .int (nI k9)), (0, .ref b9), (1, .ref (a 0)), (2, .ref (b 0)), (3, .ref ol), (4, .ref od), (5, .int (nI (4 * j)))]) hx hb dL_law_613 hl (by decide) rfl (fun ls hl => ?_)
  refine lv_aload_n hx hb dL_law_615 rfl (lv_at hl 3 rfl) ?_
  refine lv_aload_n hx hb dL_law_616 rfl (lv_at hl 1 rfl) ?_
  refine lv_iload hx hb dL_law_617 (lv_at hl 6 rfl) ?_
  refine lv_iconst (v := nI 1) hx hb dL_law_619 (by decide) ?_
  refine lv_iadd hx hb dL_law_620 ?_
  refine zti (nI_add _ _) (y := nI (4 * j + 1)) ?_
  refine z_sld (k := (4 * j + 1)) hx hb hX hbl hS (by omega) hL dL_law_621 ?_
  refine lv_aload_n hx hb dL_law_622 rfl (lv_at hl 1 rfl) ?_
  refine lv_iload hx hb dL_law_623 (lv_at hl 6 rfl) ?_
  refine lv_iconst (v := nI 2) hx hb dL_law_625 (by decide) ?_
  refine lv_iadd hx hb dL_law_626 ?_
  refine zti (nI_add _ _) (y := nI (4 * j + 2)) ?_
  refine z_sld (k := (4 * j + 2)) hx hb hX hbl hS (by omega) hL dL_law_627 ?_
  have hW1 := LW.mdl hW
  refine z_cmI (va_runV (As := [.int (xs (4 * j + 1)), .int (xs (4 * j + 2))]) (rest := []) ⟨hx, hb, hml, hown, hts⟩ (hc2 D cs s.heap.size _ b (mkW w) th (hMF.toL (cs := cs) (a := a) (ol := ol) (od := od) (f1 := v.2.2) (f2 := f2) (u' := mkU v.1) (σc := τ9))) (cwV 2 hts gL_law_X3_collisions rfl rfl rfl (by decide +kernel) ⟨Nat.le_of_ble_eq_true rfl, Nat.le_of_ble_eq_true rfl⟩) ⟨zM_blind, z_recv hK (hW1.1 0 _ rfl) rfl, zM_pre hW1 hK hA9⟩ rfl rfl hl.1 rfl (lv_room (Nat.le_of_ble_eq_true rfl)) dL_law_628 ⟨by rw [hRc]; omega, by rw [hRs]; omega⟩) hS (fun r v2 H locs hu4 hW hS => ?_)
  obtain ⟨hu5, hu6⟩ := hu4
  have hm0 : At D (b 0) (.inr (4, [.int (nI k9), .int (nI τ9.1.length), .ref (b 1), .int (nI τ9.2.1.length), .ref (b 2), .int (nI τ9.2.2.1.length), .ref (b 3), .ref (b 4), .ref (b 5), .ref (mI v2.1), .int (nI τ9.2.2.2.2.length), .ref (b 6)])) H := hW.1 0 _ rfl
  have hW := LW.mret hW
  have hMF := hu6.ofL
  have hXF := hXF.mk.more (Y' := v2.2 ++ (v.2.1 ++ O)) (fun q9 h9 => List.mem_append_right _ h9)
  have hW : Wd D s.heap.size (LW cs a b ol od (mkU v.1) τ9 v2.1 (nI k9) τ9 v.2.2 f2 (v2.2 ++ (v.2.1 ++ O))) H := hW
  refine lv_istore (lv' := [(7, .int r), (6, .int (nI k9)), (0, .ref b9), (1, .ref (a 0)), (2, .ref (b 0)), (3, .ref ol), (4, .ref od), (5, .int (nI (4 * j)))]) hx hb dL_law_631 hl (by decide) rfl (fun ls hl => ?_)
  refine lv_aload_n hx hb dL_law_633 rfl (lv_at hl 4 rfl) ?_
  refine z_csV (As := []) (rest := []) ⟨hx, hb, hml, hown, hts⟩ (c_X3_thrown l D cs (b 0) [.int (nI k9), .int (nI τ9.1.length), .ref (b 1), .int (nI τ9.2.1.length), .ref (b 2), .int (nI τ9.2.2.1.length), .ref (b 3), .ref (b 4), .ref (b 5), .ref (mI v2.1), .int (nI τ9.2.2.2.2.length), .ref (b 6)] (nI k9) rfl) (cwV 0 hts gL_law_X3_thrown rfl rfl rfl (by decide +kernel) ⟨Nat.le_of_ble_eq_true rfl, Nat.le_of_ble_eq_true rfl⟩) hm0 rfl hm0 hK rfl hl.1 rfl (Nat.le_of_ble_eq_true rfl) dL_law_634 ⟨by rw [hRc]; omega, by rw [hRs]; omega⟩ (fun r hq9 => ?_)
  have hq9 : r = nI k9 := hq9
  rw [hq9]
  refine lv_iload hx hb dL_law_637 (lv_at hl 1 rfl) ?_
  refine z_icmp_eq (tgt := 644) hx hb (by omega) (by omega) dL_law_639 (by decide) (fun hc639 => ?_) (fun hc639 => ?_)
  · skip
    have hc639 : k9 = k9 := hc639
    refine lv_iload hx hb dL_law_644 (lv_at hl 1 rfl) ?_
    refine z_ifn_ne (tgt := 661) hx hb (by omega) dL_law_646 (by decide) (fun hc646 => ?_) (fun hc646 => ?_)
    · skip
      have hc646 : ¬ k9 = 0 := hc646
      refine lv_goto (tgt := 1612) hx hb dL_law_661 (by decide) ?_
      refine W.widen (k := cells + 6) (n := slots + 2007) (by omega) (by omega) ?_
      exact kk H locs ls ⟨τ9, (mkU v.1), v2.1, nI k9, v.2.2, f2, v2.2 ++ (v.2.1 ++ O), hW, hXF, hMF⟩ hS (lv_sub hl [2, 3, 4, 5, 6, 7] rfl)
    · skip
      have hc646 : k9 = 0 := hc646
      rw [hu5 hc646] at hl
      have hl : lv_has ls 9 [(7, .int R9), (6, .int (nI k9)), (0, .ref b9), (1, .ref (a 0)), (2, .ref (b 0)), (3, .ref ol), (4, .ref od), (5, .int (nI (4 * j)))] := hl
      refine lv_aload_n hx hb dL_law_649 rfl (lv_at hl 5 rfl) ?_
      refine lv_iconst (v := nI 0) hx hb dL_law_650 (by decide) ?_
      refine va_lald hx hb hK hW.1 0 3 rfl rfl (vp_in_nI (by decide) (by decide)) dL_law_651 ?_
      rw [show (nI 0).toNatClampNeg = 0 by decide, hu2 hc646]
      refine lv_iload hx hb dL_law_652 (lv_at hl 0 rfl) ?_
      refine lv_i2l (v := R9.toInt64) hx hb dL_law_654 rfl ?_
      refine W.lcmp hx hb dL_law_655 ?_
      refine zti (lg_sameN _) (y := nI 0) ?_
      refine lv_if_eq (tgt := 661) hx hb dL_law_656 (by decide) (fun _ => ?_) (fun h9 => absurd (by decide) h9)
      refine lv_goto (tgt := 1612) hx hb dL_law_661 (by decide) ?_
      refine W.widen (k := cells + 6) (n := slots + 2007) (by omega) (by omega) ?_
      exact kk H locs ls ⟨τ9, (mkU v.1), v2.1, nI k9, v.2.2, f2, v2.2 ++ (v.2.1 ++ O), hW, hXF, hMF⟩ hS (lv_sub hl [2, 3, 4, 5, 6, 7] rfl)
  · skip
    have hc639 : ¬ k9 = k9 := hc639
    exact absurd rfl hc639

set_option maxHeartbeats 4000000 in
set_option maxRecDepth 100000 in
theorem law_8 {p : Program} {l : Launch} {e : Env} {s : State} {m : MethodId} {below : List Frame} {meth : Method} {c : Code} {b9 L : Nat} {xs : Nat → Int32} (hfl : l.stackTraces = false) (hL : L ≤ 2048) (C0 : lw_At p s m meth c b9 L xs) {D : va_G} {cs : Nat → ClassId} {ea mi : Nat} {sa : Nat → Nat} (E0 : lw_E D cs ea mi sa s) {a b : Nat → Nat} {ol od j cells slots : Nat} {H : Heap} {locs : List Loc} {ls : Array Slot} (hj : 4 * j + 4 ≤ L) (hcl : cells + 6 ≤ 601024) (hsl : slots + 2007 ≤ 7293034) (hI : lw_I D cs s.heap.size ea a b ol od H) (hS : va_S (SA s.heap.size) s.heap H locs) (hl : lv_has ls 9 [(0, .ref b9), (1, .ref (a 0)), (2, .ref (b 0)), (3, .ref ol), (4, .ref od), (5, .int (nI (4 * j)))])
    (kk : ∀ (H : Heap) (locs : List Loc) (ls : Array Slot), lw_I D cs s.heap.size ea a b ol od H → va_S (SA s.heap.size) s.heap H locs → lv_has ls 9 [(0, .ref b9), (1, .ref (a 0)), (2, .ref (b 0)), (3, .ref ol), (4, .ref od), (5, .int (nI (4 * j)))] → W p l e room_1 s m #[Value.ref b9] below meth c H locs (cells + 6) (slots + 2007) (lw_Z below #[Value.ref b9] s) (F0 m 1612 ls [])) : W p l e room_1 s m #[Value.ref b9] below meth c H locs cells slots (lw_Z below #[Value.ref b9] s) (F0 m 664 ls []) := by
  obtain ⟨hx, hb, hr, hml, hown, hts0, hX, hbl, hlocks, hgv⟩ := C0
  obtain ⟨hK, hE, hN, hA9⟩ := E0
  obtain ⟨σ, u, w, th, f1, f2, O, hW, hXF, hMF⟩ := hI
  have hb : c.code = cL_law := hb
  have hown : s.vm.findClass RL = some m.cls := hown
  have hts : ∀ w ∈ wsL_law, w.before #[Value.ref b9] s = true := fun w h => hts0 w (wsL_law_in w h)
  have hok := hXF.2.2.2.2.2.2.2.2
  have hn1 := hok.2.1.1
  have hn2 := hok.2.2.1.1
  have hn3 := hok.2.2.2.1.1
  have hRc : room_1.cells = 601024 := rfl
  have hRs : room_1.slots = 7293034 := rfl
  refine lv_aload_n hx hb dL_law_664 rfl (lv_at hl 1 rfl) ?_
  refine lv_aload_n hx hb dL_law_665 rfl (lv_at hl 0 rfl) ?_
  refine lv_iload hx hb dL_law_666 (lv_at hl 5 rfl) ?_
  refine lv_iconst (v := nI 1) hx hb dL_law_668 (by decide) ?_
  refine lv_iadd hx hb dL_law_669 ?_
  refine zti (nI_add _ _) (y := nI (4 * j + 1)) ?_
  refine z_sld (k := (4 * j + 1)) hx hb hX hbl hS (by omega) hL dL_law_670 ?_
  refine lv_aload_n hx hb dL_law_671 rfl (lv_at hl 0 rfl) ?_
  refine lv_iload hx hb dL_law_672 (lv_at hl 5 rfl) ?_
  refine lv_iconst (v := nI 2) hx hb dL_law_674 (by decide) ?_
  refine lv_iadd hx hb dL_law_675 ?_
  refine zti (nI_add _ _) (y := nI (4 * j + 2)) ?_
  refine z_sld (k := (4 * j + 2)) hx hb hX hbl hS (by omega) hL dL_law_676 ?_
  refine lv_aload_n hx hb dL_law_677 rfl (lv_at hl 3 rfl) ?_
  obtain ⟨k9, R9, τ9, hk9, hc1, hc2⟩ := bo_differentBlocks l hfl σ hXF.2.2.2.2.2.2.2.2 (xs (4 * j + 1)) (xs (4 * j + 2))
  have hW1 := LW.cls hW
  refine z_cmI (vx_runSW (As := [.ref (a 0), .int (xs (4 * j + 1)), .int (xs (4 * j + 2)), .ref ol]) (rest := []) ⟨hx, hb, hml, hown, hts⟩ (hc1 D cs s.heap.size ea mi sa _ a u ol f1 (hXF.toL (b := b) (w := mkW w) (th := th) (σm := σ) (od := od) (f2 := f2))) (vx_cwSW 4 hts gL_law_L_differentBlocks rfl rfl rfl (by decide +kernel) ⟨Nat.le_of_ble_eq_true rfl, Nat.le_of_ble_eq_true rfl⟩) ⟨zN_blind, zN_pre hW1 hK hE hN hS⟩ rfl rfl hl.1 rfl (lv_room (Nat.le_of_ble_eq_true rfl)) dL_law_678 ⟨by rw [hRc]; omega, by rw [hRs]; omega⟩) hS (fun r v H locs hu hW hS => ?_)
  obtain ⟨hu1, hu2, hu3⟩ := hu
  rw [hu1]
  have hW := LW.ret hW
  have hXF := hu3.ofL
  have hMF := (hMF.mk).more (Z' := v.2.1 ++ O) (fun q9 h9 => List.mem_append_right _ h9)
  have hW : Wd D s.heap.size (LW cs a b ol od v.1 τ9 (mkW w) th σ v.2.2 f2 (v.2.1 ++ O)) H := hW
  refine lv_istore (lv' := [(6, .int (nI k9)), (0, .ref b9), (1, .ref (a 0)), (2, .ref (b 0)), (3, .ref ol), (4, .ref od), (5, .int (nI (4 * j)))]) hx hb dL_law_681 hl (by decide) rfl (fun ls hl => ?_)
  refine lv_aload_n hx hb dL_law_683 rfl (lv_at hl 3 rfl) ?_
  refine lv_aload_n hx hb dL_law_684 rfl (lv_at hl 1 rfl) ?_
  refine lv_iload hx hb dL_law_685 (lv_at hl 6 rfl) ?_
  refine lv_iconst (v := nI 1) hx hb dL_law_687 (by decide) ?_
  refine lv_iadd hx hb dL_law_688 ?_
  refine zti (nI_add _ _) (y := nI (4 * j + 1)) ?_
  refine z_sld (k := (4 * j + 1)) hx hb hX hbl hS (by omega) hL dL_law_689 ?_
  refine lv_aload_n hx hb dL_law_690 rfl (lv_at hl 1 rfl) ?_
  refine lv_iload hx hb dL_law_691 (lv_at hl 6 rfl) ?_
  refine lv_iconst (v := nI 2) hx hb dL_law_693 (by decide) ?_
  refine lv_iadd hx hb dL_law_694 ?_
  refine zti (nI_add _ _) (y := nI (4 * j + 2)) ?_
  refine z_sld (k := (4 * j + 2)) hx hb hX hbl hS (by omega) hL dL_law_695 ?_
  have hW1 := LW.mdl hW
  refine z_cmI (va_runV (As := [.int (xs (4 * j + 1)), .int (xs (4 * j + 2))]) (rest := []) ⟨hx, hb, hml, hown, hts⟩ (hc2 D cs s.heap.size _ b (mkW w) th (hMF.toL (cs := cs) (a := a) (ol := ol) (od := od) (f1 := v.2.2) (f2 := f2) (u' := mkU v.1) (σc := τ9))) (cwV 2 hts gL_law_X3_differentBlocks rfl rfl rfl (by decide +kernel) ⟨Nat.le_of_ble_eq_true rfl, Nat.le_of_ble_eq_true rfl⟩) ⟨zM_blind, z_recv hK (hW1.1 0 _ rfl) rfl, zM_pre hW1 hK hA9⟩ rfl rfl hl.1 rfl (lv_room (Nat.le_of_ble_eq_true rfl)) dL_law_696 ⟨by rw [hRc]; omega, by rw [hRs]; omega⟩) hS (fun r v2 H locs hu4 hW hS => ?_)
  obtain ⟨hu5, hu6⟩ := hu4
  have hm0 : At D (b 0) (.inr (4, [.int (nI k9), .int (nI τ9.1.length), .ref (b 1), .int (nI τ9.2.1.length), .ref (b 2), .int (nI τ9.2.2.1.length), .ref (b 3), .ref (b 4), .ref (b 5), .ref (mI v2.1), .int (nI τ9.2.2.2.2.length), .ref (b 6)])) H := hW.1 0 _ rfl
  have hW := LW.mret hW
  have hMF := hu6.ofL
  have hXF := hXF.mk.more (Y' := v2.2 ++ (v.2.1 ++ O)) (fun q9 h9 => List.mem_append_right _ h9)
  have hW : Wd D s.heap.size (LW cs a b ol od (mkU v.1) τ9 v2.1 (nI k9) τ9 v.2.2 f2 (v2.2 ++ (v.2.1 ++ O))) H := hW
  refine lv_istore (lv' := [(7, .int r), (6, .int (nI k9)), (0, .ref b9), (1, .ref (a 0)), (2, .ref (b 0)), (3, .ref ol), (4, .ref od), (5, .int (nI (4 * j)))]) hx hb dL_law_699 hl (by decide) rfl (fun ls hl => ?_)
  refine lv_aload_n hx hb dL_law_701 rfl (lv_at hl 4 rfl) ?_
  refine z_csV (As := []) (rest := []) ⟨hx, hb, hml, hown, hts⟩ (c_X3_thrown l D cs (b 0) [.int (nI k9), .int (nI τ9.1.length), .ref (b 1), .int (nI τ9.2.1.length), .ref (b 2), .int (nI τ9.2.2.1.length), .ref (b 3), .ref (b 4), .ref (b 5), .ref (mI v2.1), .int (nI τ9.2.2.2.2.length), .ref (b 6)] (nI k9) rfl) (cwV 0 hts gL_law_X3_thrown rfl rfl rfl (by decide +kernel) ⟨Nat.le_of_ble_eq_true rfl, Nat.le_of_ble_eq_true rfl⟩) hm0 rfl hm0 hK rfl hl.1 rfl (Nat.le_of_ble_eq_true rfl) dL_law_702 ⟨by rw [hRc]; omega, by rw [hRs]; omega⟩ (fun r hq9 => ?_)
  have hq9 : r = nI k9 := hq9
  rw [hq9]
  refine lv_iload hx hb dL_law_705 (lv_at hl 1 rfl) ?_
  refine z_icmp_eq (tgt := 712) hx hb (by omega) (by omega) dL_law_707 (by decide) (fun hc707 => ?_) (fun hc707 => ?_)
  · skip
    have hc707 : k9 = k9 := hc707
    refine lv_iload hx hb dL_law_712 (lv_at hl 1 rfl) ?_
    refine z_ifn_ne (tgt := 729) hx hb (by omega) dL_law_714 (by decide) (fun hc714 => ?_) (fun hc714 => ?_)
    · skip
      have hc714 : ¬ k9 = 0 := hc714
      refine lv_goto (tgt := 1612) hx hb dL_law_729 (by decide) ?_
      refine W.widen (k := cells + 6) (n := slots + 2007) (by omega) (by omega) ?_
      exact kk H locs ls ⟨τ9, (mkU v.1), v2.1, nI k9, v.2.2, f2, v2.2 ++ (v.2.1 ++ O), hW, hXF, hMF⟩ hS (lv_sub hl [2, 3, 4, 5, 6, 7] rfl)
    · skip
      have hc714 : k9 = 0 := hc714
      rw [hu5 hc714] at hl
      have hl : lv_has ls 9 [(7, .int R9), (6, .int (nI k9)), (0, .ref b9), (1, .ref (a 0)), (2, .ref (b 0)), (3, .ref ol), (4, .ref od), (5, .int (nI (4 * j)))] := hl
      refine lv_aload_n hx hb dL_law_717 rfl (lv_at hl 5 rfl) ?_
      refine lv_iconst (v := nI 0) hx hb dL_law_718 (by decide) ?_
      refine va_lald hx hb hK hW.1 0 3 rfl rfl (vp_in_nI (by decide) (by decide)) dL_law_719 ?_
      rw [show (nI 0).toNatClampNeg = 0 by decide, hu2 hc714]
      refine lv_iload hx hb dL_law_720 (lv_at hl 0 rfl) ?_
      refine lv_i2l (v := R9.toInt64) hx hb dL_law_722 rfl ?_
      refine W.lcmp hx hb dL_law_723 ?_
      refine zti (lg_sameN _) (y := nI 0) ?_
      refine lv_if_eq (tgt := 729) hx hb dL_law_724 (by decide) (fun _ => ?_) (fun h9 => absurd (by decide) h9)
      refine lv_goto (tgt := 1612) hx hb dL_law_729 (by decide) ?_
      refine W.widen (k := cells + 6) (n := slots + 2007) (by omega) (by omega) ?_
      exact kk H locs ls ⟨τ9, (mkU v.1), v2.1, nI k9, v.2.2, f2, v2.2 ++ (v.2.1 ++ O), hW, hXF, hMF⟩ hS (lv_sub hl [2, 3, 4, 5, 6, 7] rfl)
  · skip
    have hc707 : ¬ k9 = k9 := hc707
    exact absurd rfl hc707

set_option maxHeartbeats 4000000 in
set_option maxRecDepth 100000 in
theorem law_9 {p : Program} {l : Launch} {e : Env} {s : State} {m : MethodId} {below : List Frame} {meth : Method} {c : Code} {b9 L : Nat} {xs : Nat → Int32} (hfl : l.stackTraces = false) (hL : L ≤ 2048) (C0 : lw_At p s m meth c b9 L xs) {D : va_G} {cs : Nat → ClassId} {ea mi : Nat} {sa : Nat → Nat} (E0 : lw_E D cs ea mi sa s) {a b : Nat → Nat} {ol od j cells slots : Nat} {H : Heap} {locs : List Loc} {ls : Array Slot} (hj : 4 * j + 4 ≤ L) (hcl : cells + 6 ≤ 601024) (hsl : slots + 2007 ≤ 7293034) (hI : lw_I D cs s.heap.size ea a b ol od H) (hS : va_S (SA s.heap.size) s.heap H locs) (hl : lv_has ls 9 [(0, .ref b9), (1, .ref (a 0)), (2, .ref (b 0)), (3, .ref ol), (4, .ref od), (5, .int (nI (4 * j)))])
    (kk : ∀ (H : Heap) (locs : List Loc) (ls : Array Slot), lw_I D cs s.heap.size ea a b ol od H → va_S (SA s.heap.size) s.heap H locs → lv_has ls 9 [(0, .ref b9), (1, .ref (a 0)), (2, .ref (b 0)), (3, .ref ol), (4, .ref od), (5, .int (nI (4 * j)))] → W p l e room_1 s m #[Value.ref b9] below meth c H locs (cells + 6) (slots + 2007) (lw_Z below #[Value.ref b9] s) (F0 m 1612 ls [])) : W p l e room_1 s m #[Value.ref b9] below meth c H locs cells slots (lw_Z below #[Value.ref b9] s) (F0 m 732 ls []) := by
  obtain ⟨hx, hb, hr, hml, hown, hts0, hX, hbl, hlocks, hgv⟩ := C0
  obtain ⟨hK, hE, hN, hA9⟩ := E0
  obtain ⟨σ, u, w, th, f1, f2, O, hW, hXF, hMF⟩ := hI
  have hb : c.code = cL_law := hb
  have hown : s.vm.findClass RL = some m.cls := hown
  have hts : ∀ w ∈ wsL_law, w.before #[Value.ref b9] s = true := fun w h => hts0 w (wsL_law_in w h)
  have hok := hXF.2.2.2.2.2.2.2.2
  have hn1 := hok.2.1.1
  have hn2 := hok.2.2.1.1
  have hn3 := hok.2.2.2.1.1
  have hRc : room_1.cells = 601024 := rfl
  have hRs : room_1.slots = 7293034 := rfl
  refine lv_aload_n hx hb dL_law_732 rfl (lv_at hl 1 rfl) ?_
  refine lv_aload_n hx hb dL_law_733 rfl (lv_at hl 0 rfl) ?_
  refine lv_iload hx hb dL_law_734 (lv_at hl 5 rfl) ?_
  refine lv_iconst (v := nI 1) hx hb dL_law_736 (by decide) ?_
  refine lv_iadd hx hb dL_law_737 ?_
  refine zti (nI_add _ _) (y := nI (4 * j + 1)) ?_
  refine z_sld (k := (4 * j + 1)) hx hb hX hbl hS (by omega) hL dL_law_738 ?_
  refine lv_aload_n hx hb dL_law_739 rfl (lv_at hl 0 rfl) ?_
  refine lv_iload hx hb dL_law_740 (lv_at hl 5 rfl) ?_
  refine lv_iconst (v := nI 2) hx hb dL_law_742 (by decide) ?_
  refine lv_iadd hx hb dL_law_743 ?_
  refine zti (nI_add _ _) (y := nI (4 * j + 2)) ?_
  refine z_sld (k := (4 * j + 2)) hx hb hX hbl hS (by omega) hL dL_law_744 ?_
  refine lv_aload_n hx hb dL_law_745 rfl (lv_at hl 0 rfl) ?_
  refine lv_iload hx hb dL_law_746 (lv_at hl 5 rfl) ?_
  refine lv_iconst (v := nI 3) hx hb dL_law_748 (by decide) ?_
  refine lv_iadd hx hb dL_law_749 ?_
  refine zti (nI_add _ _) (y := nI (4 * j + 3)) ?_
  refine z_sld (k := (4 * j + 3)) hx hb hX hbl hS (by omega) hL dL_law_750 ?_
  refine lv_aload_n hx hb dL_law_751 rfl (lv_at hl 3 rfl) ?_
  obtain ⟨k9, R9, τ9, hk9, hc1, hc2⟩ := bo_difference l hfl σ hXF.2.2.2.2.2.2.2.2 (xs (4 * j + 1)) (xs (4 * j + 2)) (xs (4 * j + 3))
  have hW1 := LW.cls hW
  refine z_cmI (vx_runSW (As := [.ref (a 0), .int (xs (4 * j + 1)), .int (xs (4 * j + 2)), .int (xs (4 * j + 3)), .ref ol]) (rest := []) ⟨hx, hb, hml, hown, hts⟩ (hc1 D cs s.heap.size ea mi sa _ a u ol f1 (hXF.toL (b := b) (w := mkW w) (th := th) (σm := σ) (od := od) (f2 := f2))) (vx_cwSW 5 hts gL_law_L_difference rfl rfl rfl (by decide +kernel) ⟨Nat.le_of_ble_eq_true rfl, Nat.le_of_ble_eq_true rfl⟩) ⟨zN_blind, zN_pre hW1 hK hE hN hS⟩ rfl rfl hl.1 rfl (lv_room (Nat.le_of_ble_eq_true rfl)) dL_law_752 ⟨by rw [hRc]; omega, by rw [hRs]; omega⟩) hS (fun r v H locs hu hW hS => ?_)
  obtain ⟨hu1, hu2, hu3⟩ := hu
  rw [hu1]
  have hW := LW.ret hW
  have hXF := hu3.ofL
  have hMF := (hMF.mk).more (Z' := v.2.1 ++ O) (fun q9 h9 => List.mem_append_right _ h9)
  have hW : Wd D s.heap.size (LW cs a b ol od v.1 τ9 (mkW w) th σ v.2.2 f2 (v.2.1 ++ O)) H := hW
  refine lv_istore (lv' := [(6, .int (nI k9)), (0, .ref b9), (1, .ref (a 0)), (2, .ref (b 0)), (3, .ref ol), (4, .ref od), (5, .int (nI (4 * j)))]) hx hb dL_law_755 hl (by decide) rfl (fun ls hl => ?_)
  refine lv_aload_n hx hb dL_law_757 rfl (lv_at hl 3 rfl) ?_
  refine lv_aload_n hx hb dL_law_758 rfl (lv_at hl 1 rfl) ?_
  refine lv_iload hx hb dL_law_759 (lv_at hl 6 rfl) ?_
  refine lv_iconst (v := nI 1) hx hb dL_law_761 (by decide) ?_
  refine lv_iadd hx hb dL_law_762 ?_
  refine zti (nI_add _ _) (y := nI (4 * j + 1)) ?_
  refine z_sld (k := (4 * j + 1)) hx hb hX hbl hS (by omega) hL dL_law_763 ?_
  refine lv_aload_n hx hb dL_law_764 rfl (lv_at hl 1 rfl) ?_
  refine lv_iload hx hb dL_law_765 (lv_at hl 6 rfl) ?_
  refine lv_iconst (v := nI 2) hx hb dL_law_767 (by decide) ?_
  refine lv_iadd hx hb dL_law_768 ?_
  refine zti (nI_add _ _) (y := nI (4 * j + 2)) ?_
  refine z_sld (k := (4 * j + 2)) hx hb hX hbl hS (by omega) hL dL_law_769 ?_
  refine lv_aload_n hx hb dL_law_770 rfl (lv_at hl 1 rfl) ?_
  refine lv_iload hx hb dL_law_771 (lv_at hl 6 rfl) ?_
  refine lv_iconst (v := nI 3) hx hb dL_law_773 (by decide) ?_
  refine lv_iadd hx hb dL_law_774 ?_
  refine zti (nI_add _ _) (y := nI (4 * j + 3)) ?_
  refine z_sld (k := (4 * j + 3)) hx hb hX hbl hS (by omega) hL dL_law_775 ?_
  have hW1 := LW.mdl hW
  refine z_cmI (va_runV (As := [.int (xs (4 * j + 1)), .int (xs (4 * j + 2)), .int (xs (4 * j + 3))]) (rest := []) ⟨hx, hb, hml, hown, hts⟩ (hc2 D cs s.heap.size _ b (mkW w) th (hMF.toL (cs := cs) (a := a) (ol := ol) (od := od) (f1 := v.2.2) (f2 := f2) (u' := mkU v.1) (σc := τ9))) (cwV 3 hts gL_law_X3_difference rfl rfl rfl (by decide +kernel) ⟨Nat.le_of_ble_eq_true rfl, Nat.le_of_ble_eq_true rfl⟩) ⟨zM_blind, z_recv hK (hW1.1 0 _ rfl) rfl, zM_pre hW1 hK hA9⟩ rfl rfl hl.1 rfl (lv_room (Nat.le_of_ble_eq_true rfl)) dL_law_776 ⟨by rw [hRc]; omega, by rw [hRs]; omega⟩) hS (fun r v2 H locs hu4 hW hS => ?_)
  obtain ⟨hu5, hu6⟩ := hu4
  have hm0 : At D (b 0) (.inr (4, [.int (nI k9), .int (nI τ9.1.length), .ref (b 1), .int (nI τ9.2.1.length), .ref (b 2), .int (nI τ9.2.2.1.length), .ref (b 3), .ref (b 4), .ref (b 5), .ref (mI v2.1), .int (nI τ9.2.2.2.2.length), .ref (b 6)])) H := hW.1 0 _ rfl
  have hW := LW.mret hW
  have hMF := hu6.ofL
  have hXF := hXF.mk.more (Y' := v2.2 ++ (v.2.1 ++ O)) (fun q9 h9 => List.mem_append_right _ h9)
  have hW : Wd D s.heap.size (LW cs a b ol od (mkU v.1) τ9 v2.1 (nI k9) τ9 v.2.2 f2 (v2.2 ++ (v.2.1 ++ O))) H := hW
  refine lv_istore (lv' := [(7, .int r), (6, .int (nI k9)), (0, .ref b9), (1, .ref (a 0)), (2, .ref (b 0)), (3, .ref ol), (4, .ref od), (5, .int (nI (4 * j)))]) hx hb dL_law_779 hl (by decide) rfl (fun ls hl => ?_)
  refine lv_aload_n hx hb dL_law_781 rfl (lv_at hl 4 rfl) ?_
  refine z_csV (As := []) (rest := []) ⟨hx, hb, hml, hown, hts⟩ (c_X3_thrown l D cs (b 0) [.int (nI k9), .int (nI τ9.1.length), .ref (b 1), .int (nI τ9.2.1.length), .ref (b 2), .int (nI τ9.2.2.1.length), .ref (b 3), .ref (b 4), .ref (b 5), .ref (mI v2.1), .int (nI τ9.2.2.2.2.length), .ref (b 6)] (nI k9) rfl) (cwV 0 hts gL_law_X3_thrown rfl rfl rfl (by decide +kernel) ⟨Nat.le_of_ble_eq_true rfl, Nat.le_of_ble_eq_true rfl⟩) hm0 rfl hm0 hK rfl hl.1 rfl (Nat.le_of_ble_eq_true rfl) dL_law_782 ⟨by rw [hRc]; omega, by rw [hRs]; omega⟩ (fun r hq9 => ?_)
  have hq9 : r = nI k9 := hq9
  rw [hq9]
  refine lv_iload hx hb dL_law_785 (lv_at hl 1 rfl) ?_
  refine z_icmp_eq (tgt := 792) hx hb (by omega) (by omega) dL_law_787 (by decide) (fun hc787 => ?_) (fun hc787 => ?_)
  · skip
    have hc787 : k9 = k9 := hc787
    refine lv_iload hx hb dL_law_792 (lv_at hl 1 rfl) ?_
    refine z_ifn_ne (tgt := 809) hx hb (by omega) dL_law_794 (by decide) (fun hc794 => ?_) (fun hc794 => ?_)
    · skip
      have hc794 : ¬ k9 = 0 := hc794
      refine lv_goto (tgt := 1612) hx hb dL_law_809 (by decide) ?_
      refine W.widen (k := cells + 6) (n := slots + 2007) (by omega) (by omega) ?_
      exact kk H locs ls ⟨τ9, (mkU v.1), v2.1, nI k9, v.2.2, f2, v2.2 ++ (v.2.1 ++ O), hW, hXF, hMF⟩ hS (lv_sub hl [2, 3, 4, 5, 6, 7] rfl)
    · skip
      have hc794 : k9 = 0 := hc794
      rw [hu5 hc794] at hl
      have hl : lv_has ls 9 [(7, .int R9), (6, .int (nI k9)), (0, .ref b9), (1, .ref (a 0)), (2, .ref (b 0)), (3, .ref ol), (4, .ref od), (5, .int (nI (4 * j)))] := hl
      refine lv_aload_n hx hb dL_law_797 rfl (lv_at hl 5 rfl) ?_
      refine lv_iconst (v := nI 0) hx hb dL_law_798 (by decide) ?_
      refine va_lald hx hb hK hW.1 0 3 rfl rfl (vp_in_nI (by decide) (by decide)) dL_law_799 ?_
      rw [show (nI 0).toNatClampNeg = 0 by decide, hu2 hc794]
      refine lv_iload hx hb dL_law_800 (lv_at hl 0 rfl) ?_
      refine lv_i2l (v := R9.toInt64) hx hb dL_law_802 rfl ?_
      refine W.lcmp hx hb dL_law_803 ?_
      refine zti (lg_sameN _) (y := nI 0) ?_
      refine lv_if_eq (tgt := 809) hx hb dL_law_804 (by decide) (fun _ => ?_) (fun h9 => absurd (by decide) h9)
      refine lv_goto (tgt := 1612) hx hb dL_law_809 (by decide) ?_
      refine W.widen (k := cells + 6) (n := slots + 2007) (by omega) (by omega) ?_
      exact kk H locs ls ⟨τ9, (mkU v.1), v2.1, nI k9, v.2.2, f2, v2.2 ++ (v.2.1 ++ O), hW, hXF, hMF⟩ hS (lv_sub hl [2, 3, 4, 5, 6, 7] rfl)
  · skip
    have hc787 : ¬ k9 = k9 := hc787
    exact absurd rfl hc787

set_option maxHeartbeats 4000000 in
set_option maxRecDepth 100000 in
theorem law_10 {p : Program} {l : Launch} {e : Env} {s : State} {m : MethodId} {below : List Frame} {meth : Method} {c : Code} {b9 L : Nat} {xs : Nat → Int32} (hfl : l.stackTraces = false) (hL : L ≤ 2048) (C0 : lw_At p s m meth c b9 L xs) {D : va_G} {cs : Nat → ClassId} {ea mi : Nat} {sa : Nat → Nat} (E0 : lw_E D cs ea mi sa s) {a b : Nat → Nat} {ol od j cells slots : Nat} {H : Heap} {locs : List Loc} {ls : Array Slot} (hj : 4 * j + 4 ≤ L) (hcl : cells + 6 ≤ 601024) (hsl : slots + 2007 ≤ 7293034) (hI : lw_I D cs s.heap.size ea a b ol od H) (hS : va_S (SA s.heap.size) s.heap H locs) (hl : lv_has ls 9 [(0, .ref b9), (1, .ref (a 0)), (2, .ref (b 0)), (3, .ref ol), (4, .ref od), (5, .int (nI (4 * j)))])
    (kk : ∀ (H : Heap) (locs : List Loc) (ls : Array Slot), lw_I D cs s.heap.size ea a b ol od H → va_S (SA s.heap.size) s.heap H locs → lv_has ls 9 [(0, .ref b9), (1, .ref (a 0)), (2, .ref (b 0)), (3, .ref ol), (4, .ref od), (5, .int (nI (4 * j)))] → W p l e room_1 s m #[Value.ref b9] below meth c H locs (cells + 6) (slots + 2007) (lw_Z below #[Value.ref b9] s) (F0 m 1612 ls [])) : W p l e room_1 s m #[Value.ref b9] below meth c H locs cells slots (lw_Z below #[Value.ref b9] s) (F0 m 812 ls []) := by
  obtain ⟨hx, hb, hr, hml, hown, hts0, hX, hbl, hlocks, hgv⟩ := C0
  obtain ⟨hK, hE, hN, hA9⟩ := E0
  obtain ⟨σ, u, w, th, f1, f2, O, hW, hXF, hMF⟩ := hI
  have hb : c.code = cL_law := hb
  have hown : s.vm.findClass RL = some m.cls := hown
  have hts : ∀ w ∈ wsL_law, w.before #[Value.ref b9] s = true := fun w h => hts0 w (wsL_law_in w h)
  have hok := hXF.2.2.2.2.2.2.2.2
  have hn1 := hok.2.1.1
  have hn2 := hok.2.2.1.1
  have hn3 := hok.2.2.2.1.1
  have hRc : room_1.cells = 601024 := rfl
  have hRs : room_1.slots = 7293034 := rfl
  refine lv_aload_n hx hb dL_law_812 rfl (lv_at hl 1 rfl) ?_
  refine lv_aload_n hx hb dL_law_813 rfl (lv_at hl 0 rfl) ?_
  refine lv_iload hx hb dL_law_814 (lv_at hl 5 rfl) ?_
  refine lv_iconst (v := nI 1) hx hb dL_law_816 (by decide) ?_
  refine lv_iadd hx hb dL_law_817 ?_
  refine zti (nI_add _ _) (y := nI (4 * j + 1)) ?_
  refine z_sld (k := (4 * j + 1)) hx hb hX hbl hS (by omega) hL dL_law_818 ?_
  refine lv_aload_n hx hb dL_law_819 rfl (lv_at hl 0 rfl) ?_
  refine lv_iload hx hb dL_law_820 (lv_at hl 5 rfl) ?_
  refine lv_iconst (v := nI 2) hx hb dL_law_822 (by decide) ?_
  refine lv_iadd hx hb dL_law_823 ?_
  refine zti (nI_add _ _) (y := nI (4 * j + 2)) ?_
  refine z_sld (k := (4 * j + 2)) hx hb hX hbl hS (by omega) hL dL_law_824 ?_
  refine lv_aload_n hx hb dL_law_825 rfl (lv_at hl 3 rfl) ?_
  obtain ⟨k9, R9, τ9, hk9, hc1, hc2⟩ := bo_compose l hfl σ hXF.2.2.2.2.2.2.2.2 (xs (4 * j + 1)) (xs (4 * j + 2))
  have hW1 := LW.cls hW
  refine z_cmI (vx_runSW (As := [.ref (a 0), .int (xs (4 * j + 1)), .int (xs (4 * j + 2)), .ref ol]) (rest := []) ⟨hx, hb, hml, hown, hts⟩ (hc1 D cs s.heap.size ea mi sa _ a u ol f1 (hXF.toL (b := b) (w := mkW w) (th := th) (σm := σ) (od := od) (f2 := f2))) (vx_cwSW 4 hts gL_law_L_compose rfl rfl rfl (by decide +kernel) ⟨Nat.le_of_ble_eq_true rfl, Nat.le_of_ble_eq_true rfl⟩) ⟨zN_blind, zN_pre hW1 hK hE hN hS⟩ rfl rfl hl.1 rfl (lv_room (Nat.le_of_ble_eq_true rfl)) dL_law_826 ⟨by rw [hRc]; omega, by rw [hRs]; omega⟩) hS (fun r v H locs hu hW hS => ?_)
  obtain ⟨hu1, hu2, hu3⟩ := hu
  rw [hu1]
  have hW := LW.ret hW
  have hXF := hu3.ofL
  have hMF := (hMF.mk).more (Z' := v.2.1 ++ O) (fun q9 h9 => List.mem_append_right _ h9)
  have hW : Wd D s.heap.size (LW cs a b ol od v.1 τ9 (mkW w) th σ v.2.2 f2 (v.2.1 ++ O)) H := hW
  refine lv_istore (lv' := [(6, .int (nI k9)), (0, .ref b9), (1, .ref (a 0)), (2, .ref (b 0)), (3, .ref ol), (4, .ref od), (5, .int (nI (4 * j)))]) hx hb dL_law_829 hl (by decide) rfl (fun ls hl => ?_)
  refine lv_aload_n hx hb dL_law_831 rfl (lv_at hl 3 rfl) ?_
  refine lv_aload_n hx hb dL_law_832 rfl (lv_at hl 1 rfl) ?_
  refine lv_iload hx hb dL_law_833 (lv_at hl 6 rfl) ?_
  refine lv_iconst (v := nI 1) hx hb dL_law_835 (by decide) ?_
  refine lv_iadd hx hb dL_law_836 ?_
  refine zti (nI_add _ _) (y := nI (4 * j + 1)) ?_
  refine z_sld (k := (4 * j + 1)) hx hb hX hbl hS (by omega) hL dL_law_837 ?_
  refine lv_aload_n hx hb dL_law_838 rfl (lv_at hl 1 rfl) ?_
  refine lv_iload hx hb dL_law_839 (lv_at hl 6 rfl) ?_
  refine lv_iconst (v := nI 2) hx hb dL_law_841 (by decide) ?_
  refine lv_iadd hx hb dL_law_842 ?_
  refine zti (nI_add _ _) (y := nI (4 * j + 2)) ?_
  refine z_sld (k := (4 * j + 2)) hx hb hX hbl hS (by omega) hL dL_law_843 ?_
  have hW1 := LW.mdl hW
  refine z_cmI (va_runV (As := [.int (xs (4 * j + 1)), .int (xs (4 * j + 2))]) (rest := []) ⟨hx, hb, hml, hown, hts⟩ (hc2 D cs s.heap.size _ b (mkW w) th (hMF.toL (cs := cs) (a := a) (ol := ol) (od := od) (f1 := v.2.2) (f2 := f2) (u' := mkU v.1) (σc := τ9))) (cwV 2 hts gL_law_X3_compose rfl rfl rfl (by decide +kernel) ⟨Nat.le_of_ble_eq_true rfl, Nat.le_of_ble_eq_true rfl⟩) ⟨zM_blind, z_recv hK (hW1.1 0 _ rfl) rfl, zM_pre hW1 hK hA9⟩ rfl rfl hl.1 rfl (lv_room (Nat.le_of_ble_eq_true rfl)) dL_law_844 ⟨by rw [hRc]; omega, by rw [hRs]; omega⟩) hS (fun r v2 H locs hu4 hW hS => ?_)
  obtain ⟨hu5, hu6⟩ := hu4
  have hm0 : At D (b 0) (.inr (4, [.int (nI k9), .int (nI τ9.1.length), .ref (b 1), .int (nI τ9.2.1.length), .ref (b 2), .int (nI τ9.2.2.1.length), .ref (b 3), .ref (b 4), .ref (b 5), .ref (mI v2.1), .int (nI τ9.2.2.2.2.length), .ref (b 6)])) H := hW.1 0 _ rfl
  have hW := LW.mret hW
  have hMF := hu6.ofL
  have hXF := hXF.mk.more (Y' := v2.2 ++ (v.2.1 ++ O)) (fun q9 h9 => List.mem_append_right _ h9)
  have hW : Wd D s.heap.size (LW cs a b ol od (mkU v.1) τ9 v2.1 (nI k9) τ9 v.2.2 f2 (v2.2 ++ (v.2.1 ++ O))) H := hW
  refine lv_istore (lv' := [(7, .int r), (6, .int (nI k9)), (0, .ref b9), (1, .ref (a 0)), (2, .ref (b 0)), (3, .ref ol), (4, .ref od), (5, .int (nI (4 * j)))]) hx hb dL_law_847 hl (by decide) rfl (fun ls hl => ?_)
  refine lv_aload_n hx hb dL_law_849 rfl (lv_at hl 4 rfl) ?_
  refine z_csV (As := []) (rest := []) ⟨hx, hb, hml, hown, hts⟩ (c_X3_thrown l D cs (b 0) [.int (nI k9), .int (nI τ9.1.length), .ref (b 1), .int (nI τ9.2.1.length), .ref (b 2), .int (nI τ9.2.2.1.length), .ref (b 3), .ref (b 4), .ref (b 5), .ref (mI v2.1), .int (nI τ9.2.2.2.2.length), .ref (b 6)] (nI k9) rfl) (cwV 0 hts gL_law_X3_thrown rfl rfl rfl (by decide +kernel) ⟨Nat.le_of_ble_eq_true rfl, Nat.le_of_ble_eq_true rfl⟩) hm0 rfl hm0 hK rfl hl.1 rfl (Nat.le_of_ble_eq_true rfl) dL_law_850 ⟨by rw [hRc]; omega, by rw [hRs]; omega⟩ (fun r hq9 => ?_)
  have hq9 : r = nI k9 := hq9
  rw [hq9]
  refine lv_iload hx hb dL_law_853 (lv_at hl 1 rfl) ?_
  refine z_icmp_eq (tgt := 860) hx hb (by omega) (by omega) dL_law_855 (by decide) (fun hc855 => ?_) (fun hc855 => ?_)
  · skip
    have hc855 : k9 = k9 := hc855
    refine lv_iload hx hb dL_law_860 (lv_at hl 1 rfl) ?_
    refine z_ifn_ne (tgt := 877) hx hb (by omega) dL_law_862 (by decide) (fun hc862 => ?_) (fun hc862 => ?_)
    · skip
      have hc862 : ¬ k9 = 0 := hc862
      refine lv_goto (tgt := 1612) hx hb dL_law_877 (by decide) ?_
      refine W.widen (k := cells + 6) (n := slots + 2007) (by omega) (by omega) ?_
      exact kk H locs ls ⟨τ9, (mkU v.1), v2.1, nI k9, v.2.2, f2, v2.2 ++ (v.2.1 ++ O), hW, hXF, hMF⟩ hS (lv_sub hl [2, 3, 4, 5, 6, 7] rfl)
    · skip
      have hc862 : k9 = 0 := hc862
      rw [hu5 hc862] at hl
      have hl : lv_has ls 9 [(7, .int R9), (6, .int (nI k9)), (0, .ref b9), (1, .ref (a 0)), (2, .ref (b 0)), (3, .ref ol), (4, .ref od), (5, .int (nI (4 * j)))] := hl
      refine lv_aload_n hx hb dL_law_865 rfl (lv_at hl 5 rfl) ?_
      refine lv_iconst (v := nI 0) hx hb dL_law_866 (by decide) ?_
      refine va_lald hx hb hK hW.1 0 3 rfl rfl (vp_in_nI (by decide) (by decide)) dL_law_867 ?_
      rw [show (nI 0).toNatClampNeg = 0 by decide, hu2 hc862]
      refine lv_iload hx hb dL_law_868 (lv_at hl 0 rfl) ?_
      refine lv_i2l (v := R9.toInt64) hx hb dL_law_870 rfl ?_
      refine W.lcmp hx hb dL_law_871 ?_
      refine zti (lg_sameN _) (y := nI 0) ?_
      refine lv_if_eq (tgt := 877) hx hb dL_law_872 (by decide) (fun _ => ?_) (fun h9 => absurd (by decide) h9)
      refine lv_goto (tgt := 1612) hx hb dL_law_877 (by decide) ?_
      refine W.widen (k := cells + 6) (n := slots + 2007) (by omega) (by omega) ?_
      exact kk H locs ls ⟨τ9, (mkU v.1), v2.1, nI k9, v.2.2, f2, v2.2 ++ (v.2.1 ++ O), hW, hXF, hMF⟩ hS (lv_sub hl [2, 3, 4, 5, 6, 7] rfl)
  · skip
    have hc855 : ¬ k9 = k9 := hc855
    exact absurd rfl hc855

set_option maxHeartbeats 4000000 in
set_option maxRecDepth 100000 in
theorem law_11 {p : Program} {l : Launch} {e : Env} {s : State} {m : MethodId} {below : List Frame} {meth : Method} {c : Code} {b9 L : Nat} {xs : Nat → Int32} (hfl : l.stackTraces = false) (hL : L ≤ 2048) (C0 : lw_At p s m meth c b9 L xs) {D : va_G} {cs : Nat → ClassId} {ea mi : Nat} {sa : Nat → Nat} (E0 : lw_E D cs ea mi sa s) {a b : Nat → Nat} {ol od j cells slots : Nat} {H : Heap} {locs : List Loc} {ls : Array Slot} (hj : 4 * j + 4 ≤ L) (hcl : cells + 6 ≤ 601024) (hsl : slots + 2007 ≤ 7293034) (hI : lw_I D cs s.heap.size ea a b ol od H) (hS : va_S (SA s.heap.size) s.heap H locs) (hl : lv_has ls 9 [(0, .ref b9), (1, .ref (a 0)), (2, .ref (b 0)), (3, .ref ol), (4, .ref od), (5, .int (nI (4 * j)))])
    (kk : ∀ (H : Heap) (locs : List Loc) (ls : Array Slot), lw_I D cs s.heap.size ea a b ol od H → va_S (SA s.heap.size) s.heap H locs → lv_has ls 9 [(0, .ref b9), (1, .ref (a 0)), (2, .ref (b 0)), (3, .ref ol), (4, .ref od), (5, .int (nI (4 * j)))] → W p l e room_1 s m #[Value.ref b9] below meth c H locs (cells + 6) (slots + 2007) (lw_Z below #[Value.ref b9] s) (F0 m 1612 ls [])) : W p l e room_1 s m #[Value.ref b9] below meth c H locs cells slots (lw_Z below #[Value.ref b9] s) (F0 m 880 ls []) := by
  obtain ⟨hx, hb, hr, hml, hown, hts0, hX, hbl, hlocks, hgv⟩ := C0
  obtain ⟨hK, hE, hN, hA9⟩ := E0
  obtain ⟨σ, u, w, th, f1, f2, O, hW, hXF, hMF⟩ := hI
  have hb : c.code = cL_law := hb
  have hown : s.vm.findClass RL = some m.cls := hown
  have hts : ∀ w ∈ wsL_law, w.before #[Value.ref b9] s = true := fun w h => hts0 w (wsL_law_in w h)
  have hok := hXF.2.2.2.2.2.2.2.2
  have hn1 := hok.2.1.1
  have hn2 := hok.2.2.1.1
  have hn3 := hok.2.2.2.1.1
  have hRc : room_1.cells = 601024 := rfl
  have hRs : room_1.slots = 7293034 := rfl
  refine lv_aload_n hx hb dL_law_880 rfl (lv_at hl 1 rfl) ?_
  have hW1 := LW.cls hW
  have hxh := XH.of (D := D) (XW.push hW1) ((hXF.toL (od := od) (f2 := f2) (b := b) (w := mkW w) (th := th) (σm := σ)).more m_cons)
  refine z_ceV (As := []) (rest := []) ⟨hx, hb, hml, hown, hts⟩ (c_X2_patches l D cs s.heap.size ea mi sa a u σ) (cwV 0 hts gL_law_X2_patches rfl rfl rfl (by decide +kernel) ⟨Nat.le_of_ble_eq_true rfl, Nat.le_of_ble_eq_true rfl⟩) hxh.1 rfl hxh hK hE hS rfl hl.1 rfl (Nat.le_of_ble_eq_true rfl) dL_law_881 ⟨by rw [hRc]; omega, by rw [hRs]; omega⟩ (fun r hq9 => ?_)
  have hq9 : r = nI σ.2.2.1.length := hq9
  rw [hq9]
  refine lv_aload_n hx hb dL_law_884 rfl (lv_at hl 2 rfl) ?_
  have hW1 := LW.mdl hW
  refine z_cmI (va_runV (As := []) (rest := [.int (nI σ.2.2.1.length)]) ⟨hx, hb, hml, hown, hts⟩ (c_X3_patches l D cs s.heap.size _ b w σ (hMF.toL (a := a) (ol := ol) (od := od) (f1 := f1) (f2 := f2) (u' := mkU u) (σc := σ)) th) (cwV 0 hts gL_law_X3_patches rfl rfl rfl (by decide +kernel) ⟨Nat.le_of_ble_eq_true rfl, Nat.le_of_ble_eq_true rfl⟩) ⟨zM_blind, z_recv hK (hW1.1 0 _ rfl) rfl, zM_pre hW1 hK hA9⟩ rfl rfl hl.1 rfl (lv_room (Nat.le_of_ble_eq_true rfl)) dL_law_885 ⟨by rw [hRc]; omega, by rw [hRs]; omega⟩) hS (fun r v2 H locs hu4 hW hS => ?_)
  obtain ⟨hu5, hu6⟩ := hu4
  have hm0 : At D (b 0) (.inr (4, [.int (nI 0), .int (nI σ.1.length), .ref (b 1), .int (nI σ.2.1.length), .ref (b 2), .int (nI σ.2.2.1.length), .ref (b 3), .ref (b 4), .ref (b 5), .ref (mI v2.1), .int (nI σ.2.2.2.2.length), .ref (b 6)])) H := hW.1 0 _ rfl
  have hW := LW.mret hW
  have hMF := hu6.ofL
  have hXF := hXF.mk.more (Y' := v2.2 ++ (O)) (fun q9 h9 => List.mem_append_right _ h9)
  have hW : Wd D s.heap.size (LW cs a b ol od (mkU u) σ v2.1 (nI 0) σ f1 f2 (v2.2 ++ (O))) H := hW
  rw [hu5 rfl]
  refine z_icmp_eq (tgt := 1612) hx hb (by omega) (by omega) dL_law_888 (by decide) (fun hc888 => ?_) (fun hc888 => ?_)
  · skip
    have hc888 : σ.2.2.1.length = σ.2.2.1.length := hc888
    refine W.widen (k := cells + 6) (n := slots + 2007) (by omega) (by omega) ?_
    exact kk H locs ls ⟨σ, (mkU u), v2.1, nI 0, f1, f2, v2.2 ++ (O), hW, hXF, hMF⟩ hS (lv_sub hl [0, 1, 2, 3, 4, 5] rfl)
  · skip
    have hc888 : ¬ σ.2.2.1.length = σ.2.2.1.length := hc888
    exact absurd rfl hc888

set_option maxHeartbeats 4000000 in
set_option maxRecDepth 100000 in
theorem law_12 {p : Program} {l : Launch} {e : Env} {s : State} {m : MethodId} {below : List Frame} {meth : Method} {c : Code} {b9 L : Nat} {xs : Nat → Int32} (hfl : l.stackTraces = false) (hL : L ≤ 2048) (C0 : lw_At p s m meth c b9 L xs) {D : va_G} {cs : Nat → ClassId} {ea mi : Nat} {sa : Nat → Nat} (E0 : lw_E D cs ea mi sa s) {a b : Nat → Nat} {ol od j cells slots : Nat} {H : Heap} {locs : List Loc} {ls : Array Slot} (hj : 4 * j + 4 ≤ L) (hcl : cells + 6 ≤ 601024) (hsl : slots + 2007 ≤ 7293034) (hI : lw_I D cs s.heap.size ea a b ol od H) (hS : va_S (SA s.heap.size) s.heap H locs) (hl : lv_has ls 9 [(0, .ref b9), (1, .ref (a 0)), (2, .ref (b 0)), (3, .ref ol), (4, .ref od), (5, .int (nI (4 * j)))])
    (kk : ∀ (H : Heap) (locs : List Loc) (ls : Array Slot), lw_I D cs s.heap.size ea a b ol od H → va_S (SA s.heap.size) s.heap H locs → lv_has ls 9 [(0, .ref b9), (1, .ref (a 0)), (2, .ref (b 0)), (3, .ref ol), (4, .ref od), (5, .int (nI (4 * j)))] → W p l e room_1 s m #[Value.ref b9] below meth c H locs (cells + 6) (slots + 2007) (lw_Z below #[Value.ref b9] s) (F0 m 1612 ls [])) : W p l e room_1 s m #[Value.ref b9] below meth c H locs cells slots (lw_Z below #[Value.ref b9] s) (F0 m 893 ls []) := by
  obtain ⟨hx, hb, hr, hml, hown, hts0, hX, hbl, hlocks, hgv⟩ := C0
  obtain ⟨hK, hE, hN, hA9⟩ := E0
  obtain ⟨σ, u, w, th, f1, f2, O, hW, hXF, hMF⟩ := hI
  have hb : c.code = cL_law := hb
  have hown : s.vm.findClass RL = some m.cls := hown
  have hts : ∀ w ∈ wsL_law, w.before #[Value.ref b9] s = true := fun w h => hts0 w (wsL_law_in w h)
  have hok := hXF.2.2.2.2.2.2.2.2
  have hn1 := hok.2.1.1
  have hn2 := hok.2.2.1.1
  have hn3 := hok.2.2.2.1.1
  have hRc : room_1.cells = 601024 := rfl
  have hRs : room_1.slots = 7293034 := rfl
  refine lv_aload_n hx hb dL_law_893 rfl (lv_at hl 1 rfl) ?_
  refine lv_aload_n hx hb dL_law_894 rfl (lv_at hl 0 rfl) ?_
  refine lv_iload hx hb dL_law_895 (lv_at hl 5 rfl) ?_
  refine lv_iconst (v := nI 1) hx hb dL_law_897 (by decide) ?_
  refine lv_iadd hx hb dL_law_898 ?_
  refine zti (nI_add _ _) (y := nI (4 * j + 1)) ?_
  refine z_sld (k := (4 * j + 1)) hx hb hX hbl hS (by omega) hL dL_law_899 ?_
  refine lv_aload_n hx hb dL_law_900 rfl (lv_at hl 3 rfl) ?_
  obtain ⟨k9, R9, τ9, hk9, hc1, hc2⟩ := bo_instructions l hfl σ hXF.2.2.2.2.2.2.2.2 (xs (4 * j + 1))
  have hW1 := LW.cls hW
  refine z_cmI (vx_runSW (As := [.ref (a 0), .int (xs (4 * j + 1)), .ref ol]) (rest := []) ⟨hx, hb, hml, hown, hts⟩ (hc1 D cs s.heap.size ea mi sa _ a u ol f1 (hXF.toL (b := b) (w := mkW w) (th := th) (σm := σ) (od := od) (f2 := f2))) (vx_cwSW 3 hts gL_law_L_instructions rfl rfl rfl (by decide +kernel) ⟨Nat.le_of_ble_eq_true rfl, Nat.le_of_ble_eq_true rfl⟩) ⟨zN_blind, zN_pre hW1 hK hE hN hS⟩ rfl rfl hl.1 rfl (lv_room (Nat.le_of_ble_eq_true rfl)) dL_law_901 ⟨by rw [hRc]; omega, by rw [hRs]; omega⟩) hS (fun r v H locs hu hW hS => ?_)
  obtain ⟨hu1, hu2, hu3⟩ := hu
  rw [hu1]
  have hW := LW.ret hW
  have hXF := hu3.ofL
  have hMF := (hMF.mk).more (Z' := v.2.1 ++ O) (fun q9 h9 => List.mem_append_right _ h9)
  have hW : Wd D s.heap.size (LW cs a b ol od v.1 τ9 (mkW w) th σ v.2.2 f2 (v.2.1 ++ O)) H := hW
  refine lv_istore (lv' := [(6, .int (nI k9)), (0, .ref b9), (1, .ref (a 0)), (2, .ref (b 0)), (3, .ref ol), (4, .ref od), (5, .int (nI (4 * j)))]) hx hb dL_law_904 hl (by decide) rfl (fun ls hl => ?_)
  refine lv_aload_n hx hb dL_law_906 rfl (lv_at hl 3 rfl) ?_
  refine lv_aload_n hx hb dL_law_907 rfl (lv_at hl 1 rfl) ?_
  refine lv_iload hx hb dL_law_908 (lv_at hl 6 rfl) ?_
  refine lv_iconst (v := nI 1) hx hb dL_law_910 (by decide) ?_
  refine lv_iadd hx hb dL_law_911 ?_
  refine zti (nI_add _ _) (y := nI (4 * j + 1)) ?_
  refine z_sld (k := (4 * j + 1)) hx hb hX hbl hS (by omega) hL dL_law_912 ?_
  have hW1 := LW.mdl hW
  refine z_cmI (va_runV (As := [.int (xs (4 * j + 1))]) (rest := []) ⟨hx, hb, hml, hown, hts⟩ (hc2 D cs s.heap.size _ b (mkW w) th (hMF.toL (cs := cs) (a := a) (ol := ol) (od := od) (f1 := v.2.2) (f2 := f2) (u' := mkU v.1) (σc := τ9))) (cwV 1 hts gL_law_X3_instructions rfl rfl rfl (by decide +kernel) ⟨Nat.le_of_ble_eq_true rfl, Nat.le_of_ble_eq_true rfl⟩) ⟨zM_blind, z_recv hK (hW1.1 0 _ rfl) rfl, zM_pre hW1 hK hA9⟩ rfl rfl hl.1 rfl (lv_room (Nat.le_of_ble_eq_true rfl)) dL_law_913 ⟨by rw [hRc]; omega, by rw [hRs]; omega⟩) hS (fun r v2 H locs hu4 hW hS => ?_)
  obtain ⟨hu5, hu6⟩ := hu4
  have hm0 : At D (b 0) (.inr (4, [.int (nI k9), .int (nI τ9.1.length), .ref (b 1), .int (nI τ9.2.1.length), .ref (b 2), .int (nI τ9.2.2.1.length), .ref (b 3), .ref (b 4), .ref (b 5), .ref (mI v2.1), .int (nI τ9.2.2.2.2.length), .ref (b 6)])) H := hW.1 0 _ rfl
  have hW := LW.mret hW
  have hMF := hu6.ofL
  have hXF := hXF.mk.more (Y' := v2.2 ++ (v.2.1 ++ O)) (fun q9 h9 => List.mem_append_right _ h9)
  have hW : Wd D s.heap.size (LW cs a b ol od (mkU v.1) τ9 v2.1 (nI k9) τ9 v.2.2 f2 (v2.2 ++ (v.2.1 ++ O))) H := hW
  refine lv_istore (lv' := [(7, .int r), (6, .int (nI k9)), (0, .ref b9), (1, .ref (a 0)), (2, .ref (b 0)), (3, .ref ol), (4, .ref od), (5, .int (nI (4 * j)))]) hx hb dL_law_916 hl (by decide) rfl (fun ls hl => ?_)
  refine lv_aload_n hx hb dL_law_918 rfl (lv_at hl 4 rfl) ?_
  refine z_csV (As := []) (rest := []) ⟨hx, hb, hml, hown, hts⟩ (c_X3_thrown l D cs (b 0) [.int (nI k9), .int (nI τ9.1.length), .ref (b 1), .int (nI τ9.2.1.length), .ref (b 2), .int (nI τ9.2.2.1.length), .ref (b 3), .ref (b 4), .ref (b 5), .ref (mI v2.1), .int (nI τ9.2.2.2.2.length), .ref (b 6)] (nI k9) rfl) (cwV 0 hts gL_law_X3_thrown rfl rfl rfl (by decide +kernel) ⟨Nat.le_of_ble_eq_true rfl, Nat.le_of_ble_eq_true rfl⟩) hm0 rfl hm0 hK rfl hl.1 rfl (Nat.le_of_ble_eq_true rfl) dL_law_919 ⟨by rw [hRc]; omega, by rw [hRs]; omega⟩ (fun r hq9 => ?_)
  have hq9 : r = nI k9 := hq9
  rw [hq9]
  refine lv_iload hx hb dL_law_922 (lv_at hl 1 rfl) ?_
  refine z_icmp_eq (tgt := 929) hx hb (by omega) (by omega) dL_law_924 (by decide) (fun hc924 => ?_) (fun hc924 => ?_)
  · skip
    have hc924 : k9 = k9 := hc924
    refine lv_iload hx hb dL_law_929 (lv_at hl 1 rfl) ?_
    refine z_ifn_ne (tgt := 946) hx hb (by omega) dL_law_931 (by decide) (fun hc931 => ?_) (fun hc931 => ?_)
    · skip
      have hc931 : ¬ k9 = 0 := hc931
      refine lv_goto (tgt := 1612) hx hb dL_law_946 (by decide) ?_
      refine W.widen (k := cells + 6) (n := slots + 2007) (by omega) (by omega) ?_
      exact kk H locs ls ⟨τ9, (mkU v.1), v2.1, nI k9, v.2.2, f2, v2.2 ++ (v.2.1 ++ O), hW, hXF, hMF⟩ hS (lv_sub hl [2, 3, 4, 5, 6, 7] rfl)
    · skip
      have hc931 : k9 = 0 := hc931
      rw [hu5 hc931] at hl
      have hl : lv_has ls 9 [(7, .int R9), (6, .int (nI k9)), (0, .ref b9), (1, .ref (a 0)), (2, .ref (b 0)), (3, .ref ol), (4, .ref od), (5, .int (nI (4 * j)))] := hl
      refine lv_aload_n hx hb dL_law_934 rfl (lv_at hl 5 rfl) ?_
      refine lv_iconst (v := nI 0) hx hb dL_law_935 (by decide) ?_
      refine va_lald hx hb hK hW.1 0 3 rfl rfl (vp_in_nI (by decide) (by decide)) dL_law_936 ?_
      rw [show (nI 0).toNatClampNeg = 0 by decide, hu2 hc931]
      refine lv_iload hx hb dL_law_937 (lv_at hl 0 rfl) ?_
      refine lv_i2l (v := R9.toInt64) hx hb dL_law_939 rfl ?_
      refine W.lcmp hx hb dL_law_940 ?_
      refine zti (lg_sameN _) (y := nI 0) ?_
      refine lv_if_eq (tgt := 946) hx hb dL_law_941 (by decide) (fun _ => ?_) (fun h9 => absurd (by decide) h9)
      refine lv_goto (tgt := 1612) hx hb dL_law_946 (by decide) ?_
      refine W.widen (k := cells + 6) (n := slots + 2007) (by omega) (by omega) ?_
      exact kk H locs ls ⟨τ9, (mkU v.1), v2.1, nI k9, v.2.2, f2, v2.2 ++ (v.2.1 ++ O), hW, hXF, hMF⟩ hS (lv_sub hl [2, 3, 4, 5, 6, 7] rfl)
  · skip
    have hc924 : ¬ k9 = k9 := hc924
    exact absurd rfl hc924
