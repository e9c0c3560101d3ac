/-! the law: a patch is held against its base and its goal -/
theorem dc_self {x : UInt64} (h : vf_n64 x) : Op.cmpValue (FP.dcmp x x) .l = nI 0 := (Jvm.RoadKit.dcmpV_self h .l).trans nI_0.symm
theorem nw_n64 (k n : Nat) (hn : n < 2 ^ 31) : vf_n64 (nwD k n) := by
  unfold nwD
  by_cases h : n = 0
  · rw [if_pos h]; unfold vf_n64; decide
  · rw [if_neg h]; exact nn_div _ _ (nI_nz h hn)

set_option maxHeartbeats 4000000 in
set_option maxRecDepth 100000 in
theorem law_pa {p : Program} {l : Launch} {e : Env} {s : State} {m : MethodId} {below : List Frame} {meth : Method} {c : Code} {b9 L : Nat} {xs : Nat → Int32} (hL : L ≤ 260) (C0 : lw_At p s m meth c b9 L xs) {D : va_G} {cs : Nat → ClassId} {ea mi : Nat} {sa : Nat → Nat} {S0 : Nat} (hS0 : S0 = s.heap.size) (E0 : lw_E D cs ea mi sa s) {a : Nat → Nat} {u : XU} {σ : St} {Y : va_W} {cells slots : Nat} {H : Heap} {locs : List Loc} {ls : Array Slot} (hcl : cells ≤ 600130) (hsl : slots ≤ 7301080) (hW : Wd D S0 (XW cs a u σ Y) H) (hF : XF cs ea u σ Y) (hS : va_S (SA S0) s.heap H locs) {q9a rb rg kz aa ba9 ca sz pp j9 : Nat} {xz : Int32} (hj : j9 < σ.2.2.1.length) {p9 : Pt} (hp9 : psN σ.2.2.1 j9 = p9) (hPG : PG p9) (hrb : (rb, ba cs p9.1) ∈ Y) (hrg : (rg, ba cs p9.2.1) ∈ Y) (hpp : pp < 12) (hsz : sz < 100) (hnb : j9 = pp → p9.1.length < sz → litN (rf p9.2.2) p9.2.1.length = p9.2.1.length) (hl : lv_has ls 22 [(0, .ref b9), (1, .ref (a 0)), (2, .ref q9a), (3, .int (nI kz)), (4, .int xz), (5, .int (nI aa)), (6, .int (nI ba9)), (7, .int (nI ca)), (8, .int (nI sz)), (9, .int (nI pp)), (10, .int (nI (pp + 1))), (11, .int (nI (pp + 1 + 1))), (12, .int (nI j9)), (13, .ref rb), (14, .ref rg)])
    (kk : ∀ ls : Array Slot, lv_has ls 22 [(0, .ref b9), (1, .ref (a 0)), (2, .ref q9a), (3, .int (nI kz)), (4, .int xz), (5, .int (nI aa)), (6, .int (nI ba9)), (7, .int (nI ca)), (8, .int (nI sz)), (9, .int (nI pp)), (10, .int (nI (pp + 1))), (11, .int (nI (pp + 1 + 1))), (12, .int (nI j9)), (13, .ref rb), (14, .ref rg)] → W p l e room_1 s m #[Value.ref b9] below meth c H locs cells slots (lw_Z below #[Value.ref b9] s) (F0 m 503 ls [])) : W p l e room_1 s m #[Value.ref b9] below meth c H locs cells slots (lw_Z below #[Value.ref b9] s) (F0 m 231 ls []) := by
  obtain ⟨hx, hb, hr, hml, hown, hts0, hX, hbl, hlocks, hgv⟩ := id C0
  obtain ⟨hK, hE9, hA9⟩ := id E0
  have hE : EV (SA S0) ea mi sa s s.heap := by rw [hS0]; exact hE9
  have hb0 := hb
  have hb : c.code = cL_law := hb
  have hown : s.vm.findClass RL = some m.cls := hown
  have hts : ∀ w ∈ wsL_law, w.before #[Value.ref b9] s = true := fun w h => hts0 w (wsL_law_in w h)
  have hRc : room_1.cells = 600130 := rfl
  have hRs : room_1.slots = 7301080 := rfl
  have hSS : S0 ≤ s.heap.size := Nat.le_of_eq hS0
  have hb9 : b9 < S0 := by omega
  have hXH := XH.of hW hF
  have hok := hF.2.2.2.2.2.2.2.2
  have hok9 : ptOk p9 := by rw [← hp9]; exact hok.2.2.1.2 j9 hj
  have hn12 := hok.2.2.1.1
  have hl1 := hok9.1.1
  have hl2 := hok9.2.1.1
  have hmn : manyN (rf p9.2.2) p9.2.1.length ≤ p9.2.1.length := ct_le _ _
  refine lv_iconst (v := nI 0) hx hb dL_law_231 (by decide) ?_
  refine zti (y := nI (atN (rf p9.2.2) p9.2.1.length 0)) (congrArg nI at_0.symm) ?_
  refine lv_istore (lv' := [(15, .int (nI (atN (rf p9.2.2) p9.2.1.length 0))), (0, .ref b9), (1, .ref (a 0)), (2, .ref q9a), (3, .int (nI kz)), (4, .int xz), (5, .int (nI aa)), (6, .int (nI ba9)), (7, .int (nI ca)), (8, .int (nI sz)), (9, .int (nI pp)), (10, .int (nI (pp + 1))), (11, .int (nI (pp + 1 + 1))), (12, .int (nI j9)), (13, .ref rb), (14, .ref rg)]) hx hb dL_law_232 hl (by decide) rfl (fun ls hl => ?_)
  refine lv_iconst (v := nI 0) hx hb dL_law_234 (by decide) ?_
  refine lv_istore (lv' := [(16, .int (nI 0)), (15, .int (nI (atN (rf p9.2.2) p9.2.1.length 0))), (0, .ref b9), (1, .ref (a 0)), (2, .ref q9a), (3, .int (nI kz)), (4, .int xz), (5, .int (nI aa)), (6, .int (nI ba9)), (7, .int (nI ca)), (8, .int (nI sz)), (9, .int (nI pp)), (10, .int (nI (pp + 1))), (11, .int (nI (pp + 1 + 1))), (12, .int (nI j9)), (13, .ref rb), (14, .ref rg)]) hx hb dL_law_235 hl (by decide) rfl (fun ls hl => ?_)
  refine lv_iconst (v := (-1 : Int32)) hx hb dL_law_237 (by decide) ?_
  refine lv_istore (lv' := [(17, .int (-1 : Int32)), (16, .int (nI 0)), (15, .int (nI (atN (rf p9.2.2) p9.2.1.length 0))), (0, .ref b9), (1, .ref (a 0)), (2, .ref q9a), (3, .int (nI kz)), (4, .int xz), (5, .int (nI aa)), (6, .int (nI ba9)), (7, .int (nI ca)), (8, .int (nI sz)), (9, .int (nI pp)), (10, .int (nI (pp + 1))), (11, .int (nI (pp + 1 + 1))), (12, .int (nI j9)), (13, .ref rb), (14, .ref rg)]) hx hb dL_law_238 hl (by decide) rfl (fun ls hl => ?_)
  refine lv_iconst (v := nI 0) hx hb dL_law_240 (by decide) ?_
  refine lv_istore (lv' := [(18, .int (nI 0)), (17, .int (-1 : Int32)), (16, .int (nI 0)), (15, .int (nI (atN (rf p9.2.2) p9.2.1.length 0))), (0, .ref b9), (1, .ref (a 0)), (2, .ref q9a), (3, .int (nI kz)), (4, .int xz), (5, .int (nI aa)), (6, .int (nI ba9)), (7, .int (nI ca)), (8, .int (nI sz)), (9, .int (nI pp)), (10, .int (nI (pp + 1))), (11, .int (nI (pp + 1 + 1))), (12, .int (nI j9)), (13, .ref rb), (14, .ref rg)]) hx hb dL_law_241 hl (by decide) rfl (fun ls hl => ?_)
  refine z_loop (σ := Nat × Nat × Int32) (fun q9 => manyN (rf p9.2.2) p9.2.1.length - q9.1) (fun q9 ls => lv_has ls 22 [(0, .ref b9), (1, .ref (a 0)), (2, .ref q9a), (3, .int (nI kz)), (4, .int xz), (5, .int (nI aa)), (6, .int (nI ba9)), (7, .int (nI ca)), (8, .int (nI sz)), (9, .int (nI pp)), (10, .int (nI (pp + 1))), (11, .int (nI (pp + 1 + 1))), (12, .int (nI j9)), (13, .ref rb), (14, .ref rg), (15, .int (nI (atN (rf p9.2.2) p9.2.1.length q9.1))), (16, .int (nI q9.2.1)), (17, .int q9.2.2), (18, .int (nI q9.1))] ∧ (q9.1 ≤ manyN (rf p9.2.2) p9.2.1.length) ∧ (q9.2.1 + litN (rf p9.2.2) (atN (rf p9.2.2) p9.2.1.length q9.1) = atN (rf p9.2.2) p9.2.1.length q9.1) ∧ (q9.2.2 = nI 1 → q9.1 < manyN (rf p9.2.2) p9.2.1.length → ¬ (rf p9.2.2) (posN (rf p9.2.2) p9.2.1.length q9.1) = (-1))) (0, 0, (-1 : Int32)) ⟨lv_sub hl [4, 5, 6, 7, 8, 9, 10, 11, 12, 13, 14, 15, 16, 17, 18, 3, 2, 1, 0] rfl, (show 0 ≤ manyN (rf p9.2.2) p9.2.1.length from Nat.zero_le _), (show 0 + litN (rf p9.2.2) (atN (rf p9.2.2) p9.2.1.length 0) = atN (rf p9.2.2) p9.2.1.length 0 from (by rw [at_0]; rfl)), (show (-1 : Int32) = nI 1 → 0 < manyN (rf p9.2.2) p9.2.1.length → ¬ (rf p9.2.2) (posN (rf p9.2.2) p9.2.1.length 0) = (-1) from (fun h9 => absurd h9 (by decide)))⟩ (fun dd243 ih243 y9 ls hd9 hI9 => ?_)
  obtain ⟨ki, cp, bf⟩ := y9
  have hd243 : manyN (rf p9.2.2) p9.2.1.length - ki = dd243 := hd9
  have hI9 : lv_has ls 22 [(0, .ref b9), (1, .ref (a 0)), (2, .ref q9a), (3, .int (nI kz)), (4, .int xz), (5, .int (nI aa)), (6, .int (nI ba9)), (7, .int (nI ca)), (8, .int (nI sz)), (9, .int (nI pp)), (10, .int (nI (pp + 1))), (11, .int (nI (pp + 1 + 1))), (12, .int (nI j9)), (13, .ref rb), (14, .ref rg), (15, .int (nI (atN (rf p9.2.2) p9.2.1.length ki))), (16, .int (nI cp)), (17, .int bf), (18, .int (nI ki))] ∧ (ki ≤ manyN (rf p9.2.2) p9.2.1.length) ∧ (cp + litN (rf p9.2.2) (atN (rf p9.2.2) p9.2.1.length ki) = atN (rf p9.2.2) p9.2.1.length ki) ∧ (bf = nI 1 → ki < manyN (rf p9.2.2) p9.2.1.length → ¬ (rf p9.2.2) (posN (rf p9.2.2) p9.2.1.length ki) = (-1)) := hI9
  obtain ⟨hl, hki, hcp, hbf⟩ := hI9
  refine lv_iload hx hb dL_law_243 (lv_at hl 18 rfl) ?_
  refine lv_aload_n hx hb dL_law_245 rfl (lv_at hl 1 rfl) ?_
  refine lv_iload hx hb dL_law_246 (lv_at hl 12 rfl) ?_
  refine z_ceV (As := [.int (nI j9)]) (rest := [.int (nI ki)]) ⟨hx, hb, hml, hown, hts⟩ (c_X2_instructions l D cs S0 ea mi sa a u σ j9 hj) (cwV 1 hts gL_law_X2_instructions rfl rfl rfl (by decide +kernel) ⟨Nat.le_of_ble_eq_true rfl, Nat.le_of_ble_eq_true rfl⟩) hXH.1 rfl hXH hK hE hS rfl hl.1 rfl (Nat.le_of_ble_eq_true rfl) dL_law_248 ⟨by rw [hRc]; omega, by rw [hRs]; omega⟩ (fun r hq9 => ?_)
  have hq9 : r = nI (manyN (rf p9.2.2) p9.2.1.length) := by rw [hq9, hp9]
  rw [hq9]
  refine z_icmp_ge (tgt := 406) hx hb (by omega) (by omega) dL_law_251 (by decide) (fun hc251 => ?_) (fun hc251 => ?_)
  · skip
    have hc251 : manyN (rf p9.2.2) p9.2.1.length ≤ ki := hc251
    have eki : ki = manyN (rf p9.2.2) p9.2.1.length := by omega
    have ean : atN (rf p9.2.2) p9.2.1.length ki = p9.2.1.length := at_n (by omega)
    rw [ean] at hl hcp
    have ell := lit_le (rf p9.2.2) p9.2.1.length
    have elo := cost_lo (rf p9.2.2) p9.2.1.length
    have ehi := cost_hi (rf p9.2.2) p9.2.1.length
    refine lv_aload hx hb dL_law_406 (lv_at hl 14 rfl) ?_
    refine z_alen (n := p9.2.1.length) hx hb hK (hW.mem (XW_y _ hrg)) dL_law_408 ?_
    refine lv_iload hx hb dL_law_409 (lv_at hl 16 rfl) ?_
    refine lv_isub hx hb dL_law_411 ?_
    refine zti (pk_sub (by omega)) (y := nI (p9.2.1.length - cp)) ?_
    refine zti (y := nI (litN (rf p9.2.2) p9.2.1.length)) (congrArg nI (by omega)) ?_
    refine lv_istore (lv' := [(18, .int (nI (litN (rf p9.2.2) p9.2.1.length))), (0, .ref b9), (1, .ref (a 0)), (2, .ref q9a), (3, .int (nI kz)), (4, .int xz), (5, .int (nI aa)), (6, .int (nI ba9)), (7, .int (nI ca)), (8, .int (nI sz)), (9, .int (nI pp)), (10, .int (nI (pp + 1))), (11, .int (nI (pp + 1 + 1))), (12, .int (nI j9)), (13, .ref rb), (14, .ref rg), (15, .int (nI (p9.2.1.length))), (16, .int (nI cp)), (17, .int bf)]) hx hb dL_law_412 hl (by decide) rfl (fun ls hl => ?_)
    refine lv_iload hx hb dL_law_414 (lv_at hl 16 rfl) ?_
    refine lv_aload hx hb dL_law_416 (lv_at hl 15 rfl) ?_
    refine z_alen (n := p9.2.1.length) hx hb hK (hW.mem (XW_y _ hrg)) dL_law_418 ?_
    refine z_icmp_ne (tgt := 479) hx hb (by omega) (by omega) dL_law_419 (by decide) (fun hc419 => ?_) (fun hc419 => ?_)
    · skip
      have hc419 : ¬ p9.2.1.length = p9.2.1.length := hc419
      exact absurd rfl hc419
    · skip
      have hc419 : p9.2.1.length = p9.2.1.length := hc419
      refine lv_aload_n hx hb dL_law_422 rfl (lv_at hl 2 rfl) ?_
      refine lv_iload hx hb dL_law_423 (lv_at hl 13 rfl) ?_
      refine z_cedV (As := [.int (nI j9)]) (rest := []) ⟨hx, hb, hml, hown, hts⟩ (c_X2_newness l D cs S0 ea mi sa a u σ j9 hj) (cwV 1 hts gL_law_X2_newness rfl rfl rfl (by decide +kernel) ⟨Nat.le_of_ble_eq_true rfl, Nat.le_of_ble_eq_true rfl⟩) hXH.1 rfl hXH hK hE hS rfl hl.1 rfl (Nat.le_of_ble_eq_true rfl) dL_law_425 ⟨by rw [hRc]; omega, by rw [hRs]; omega⟩ (fun r hq9 => ?_)
      have hq9 : r = nwD (litN (rf p9.2.2) p9.2.1.length) p9.2.1.length := by rw [hq9, hp9]
      rw [hq9]
      refine lv_aload hx hb dL_law_428 (lv_at hl 15 rfl) ?_
      refine z_alen (n := p9.2.1.length) hx hb hK (hW.mem (XW_y _ hrg)) dL_law_430 ?_
      refine z_ifn_ne (tgt := 438) hx hb (by omega) dL_law_431 (by decide) (fun hc431 => ?_) (fun hc431 => ?_)
      · skip
        have hc431 : ¬ p9.2.1.length = 0 := hc431
        refine lv_iload hx hb dL_law_438 (lv_at hl 0 rfl) ?_
        refine lv_i2d hx hb dL_law_440 ?_
        refine lv_aload hx hb dL_law_441 (lv_at hl 15 rfl) ?_
        refine z_alen (n := p9.2.1.length) hx hb hK (hW.mem (XW_y _ hrg)) dL_law_443 ?_
        refine lv_i2d hx hb dL_law_444 ?_
        refine lv_ddiv hx hb dL_law_445 (nn_div _ _ (nI_nz hc431 (by omega))) ?_
        refine lv_dcmp hx hb dL_law_446 ?_
        refine zti (y := nI 0) (by rw [show nwD (litN (rf p9.2.2) p9.2.1.length) p9.2.1.length = FP.ddiv (FP.i2d (nI (litN (rf p9.2.2) p9.2.1.length))) (FP.i2d (nI p9.2.1.length)) from if_neg hc431]; exact dc_self (nn_div _ _ (nI_nz hc431 (by omega)))) ?_
        refine lv_if_ne (tgt := 479) hx hb dL_law_447 (by decide) (fun h9 => absurd (by decide) h9) (fun _ => ?_)
        refine lv_aload_n hx hb dL_law_450 rfl (lv_at hl 2 rfl) ?_
        refine lv_iload hx hb dL_law_451 (lv_at hl 13 rfl) ?_
        refine z_ceV (As := [.int (nI j9)]) (rest := []) ⟨hx, hb, hml, hown, hts⟩ (c_X2_cost l D cs S0 ea mi sa a u σ j9 hj) (cwV 1 hts gL_law_X2_cost rfl rfl rfl (by decide +kernel) ⟨Nat.le_of_ble_eq_true rfl, Nat.le_of_ble_eq_true rfl⟩) hXH.1 rfl hXH hK hE hS rfl hl.1 rfl (Nat.le_of_ble_eq_true rfl) dL_law_453 ⟨by rw [hRc]; omega, by rw [hRs]; omega⟩ (fun r hq9 => ?_)
        have hq9 : r = nI (costN (rf p9.2.2) p9.2.1.length) := by rw [hq9, hp9]
        rw [hq9]
        refine lv_iload hx hb dL_law_456 (lv_at hl 0 rfl) ?_
        refine z_icmp_lt (tgt := 479) hx hb (by omega) (by omega) dL_law_458 (by decide) (fun hc458 => ?_) (fun hc458 => ?_)
        · skip
          have hc458 : costN (rf p9.2.2) p9.2.1.length < litN (rf p9.2.2) p9.2.1.length := hc458
          omega
        · skip
          have hc458 : litN (rf p9.2.2) p9.2.1.length ≤ costN (rf p9.2.2) p9.2.1.length := hc458
          refine lv_aload_n hx hb dL_law_461 rfl (lv_at hl 2 rfl) ?_
          refine lv_iload hx hb dL_law_462 (lv_at hl 13 rfl) ?_
          refine z_ceV (As := [.int (nI j9)]) (rest := []) ⟨hx, hb, hml, hown, hts⟩ (c_X2_cost l D cs S0 ea mi sa a u σ j9 hj) (cwV 1 hts gL_law_X2_cost rfl rfl rfl (by decide +kernel) ⟨Nat.le_of_ble_eq_true rfl, Nat.le_of_ble_eq_true rfl⟩) hXH.1 rfl hXH hK hE hS rfl hl.1 rfl (Nat.le_of_ble_eq_true rfl) dL_law_464 ⟨by rw [hRc]; omega, by rw [hRs]; omega⟩ (fun r hq9 => ?_)
          have hq9 : r = nI (costN (rf p9.2.2) p9.2.1.length) := by rw [hq9, hp9]
          rw [hq9]
          refine lv_iconst (v := nI 3) hx hb dL_law_467 (by decide) ?_
          refine lv_iload hx hb dL_law_468 (lv_at hl 0 rfl) ?_
          refine lv_imul hx hb dL_law_470 ?_
          refine zti (pk_mul _ _) (y := nI (3 * (litN (rf p9.2.2) p9.2.1.length))) ?_
          refine lv_iconst (v := nI 5) hx hb dL_law_471 (by decide) ?_
          refine lv_iload hx hb dL_law_472 (lv_at hl 17 rfl) ?_
          refine lv_imul hx hb dL_law_474 ?_
          refine zti (pk_mul _ _) (y := nI (5 * cp)) ?_
          refine lv_iadd hx hb dL_law_475 ?_
          refine zti (nI_add _ _) (y := nI (3 * (litN (rf p9.2.2) p9.2.1.length) + (5 * cp))) ?_
          refine z_icmp_le (tgt := 481) hx hb (by omega) (by omega) dL_law_476 (by decide) (fun hc476 => ?_) (fun hc476 => ?_)
          · skip
            have hc476 : costN (rf p9.2.2) p9.2.1.length ≤ 3 * (litN (rf p9.2.2) p9.2.1.length) + (5 * cp) := hc476
            refine lv_iload hx hb dL_law_481 (lv_at hl 13 rfl) ?_
            refine lv_iload hx hb dL_law_483 (lv_at hl 10 rfl) ?_
            refine z_icmp_ne (tgt := 503) hx hb (by omega) (by omega) dL_law_485 (by decide) (fun hc485 => ?_) (fun hc485 => ?_)
            · skip
              have hc485 : ¬ j9 = pp := hc485
              exact kk ls (lv_sub hl [1, 2, 3, 4, 5, 6, 7, 8, 9, 10, 11, 12, 13, 14, 15] rfl)
            · skip
              have hc485 : j9 = pp := hc485
              refine lv_aload hx hb dL_law_488 (lv_at hl 14 rfl) ?_
              refine z_alen (n := p9.1.length) hx hb hK (hW.mem (XW_y _ hrb)) dL_law_490 ?_
              refine lv_iload hx hb dL_law_491 (lv_at hl 9 rfl) ?_
              refine z_icmp_ge (tgt := 503) hx hb (by omega) (by omega) dL_law_493 (by decide) (fun hc493 => ?_) (fun hc493 => ?_)
              · skip
                have hc493 : sz ≤ p9.1.length := hc493
                exact kk ls (lv_sub hl [1, 2, 3, 4, 5, 6, 7, 8, 9, 10, 11, 12, 13, 14, 15] rfl)
              · skip
                have hc493 : p9.1.length < sz := hc493
                refine lv_iload hx hb dL_law_496 (lv_at hl 17 rfl) ?_
                refine z_ifn_eq (tgt := 503) hx hb (by omega) dL_law_498 (by decide) (fun hc498 => ?_) (fun hc498 => ?_)
                · skip
                  have hc498 : cp = 0 := hc498
                  exact kk ls (lv_sub hl [1, 2, 3, 4, 5, 6, 7, 8, 9, 10, 11, 12, 13, 14, 15] rfl)
                · skip
                  have hc498 : ¬ cp = 0 := hc498
                  exact absurd (hnb hc485 hc493) (fun h9 => hc498 (by omega))
          · skip
            have hc476 : 3 * (litN (rf p9.2.2) p9.2.1.length) + (5 * cp) < costN (rf p9.2.2) p9.2.1.length := hc476
            omega
      · skip
        have hc431 : p9.2.1.length = 0 := hc431
        refine lv_dconst0 hx hb dL_law_434 ?_
        refine lv_goto (tgt := 446) hx hb dL_law_435 (by decide) ?_
        refine lv_dcmp hx hb dL_law_446 ?_
        refine zti (y := nI 0) (by rw [show nwD (litN (rf p9.2.2) p9.2.1.length) p9.2.1.length = FP.dconst0 from if_pos hc431]; exact dc_self (by unfold vf_n64; decide)) ?_
        refine lv_if_ne (tgt := 479) hx hb dL_law_447 (by decide) (fun h9 => absurd (by decide) h9) (fun _ => ?_)
        refine lv_aload_n hx hb dL_law_450 rfl (lv_at hl 2 rfl) ?_
        refine lv_iload hx hb dL_law_451 (lv_at hl 13 rfl) ?_
        refine z_ceV (As := [.int (nI j9)]) (rest := []) ⟨hx, hb, hml, hown, hts⟩ (c_X2_cost l D cs S0 ea mi sa a u σ j9 hj) (cwV 1 hts gL_law_X2_cost rfl rfl rfl (by decide +kernel) ⟨Nat.le_of_ble_eq_true rfl, Nat.le_of_ble_eq_true rfl⟩) hXH.1 rfl hXH hK hE hS rfl hl.1 rfl (Nat.le_of_ble_eq_true rfl) dL_law_453 ⟨by rw [hRc]; omega, by rw [hRs]; omega⟩ (fun r hq9 => ?_)
        have hq9 : r = nI (costN (rf p9.2.2) p9.2.1.length) := by rw [hq9, hp9]
        rw [hq9]
        refine lv_iload hx hb dL_law_456 (lv_at hl 0 rfl) ?_
        refine z_icmp_lt (tgt := 479) hx hb (by omega) (by omega) dL_law_458 (by decide) (fun hc458 => ?_) (fun hc458 => ?_)
        · skip
          have hc458 : costN (rf p9.2.2) p9.2.1.length < litN (rf p9.2.2) p9.2.1.length := hc458
          omega
        · skip
          have hc458 : litN (rf p9.2.2) p9.2.1.length ≤ costN (rf p9.2.2) p9.2.1.length := hc458
          refine lv_aload_n hx hb dL_law_461 rfl (lv_at hl 2 rfl) ?_
          refine lv_iload hx hb dL_law_462 (lv_at hl 13 rfl) ?_
          refine z_ceV (As := [.int (nI j9)]) (rest := []) ⟨hx, hb, hml, hown, hts⟩ (c_X2_cost l D cs S0 ea mi sa a u σ j9 hj) (cwV 1 hts gL_law_X2_cost rfl rfl rfl (by decide +kernel) ⟨Nat.le_of_ble_eq_true rfl, Nat.le_of_ble_eq_true rfl⟩) hXH.1 rfl hXH hK hE hS rfl hl.1 rfl (Nat.le_of_ble_eq_true rfl) dL_law_464 ⟨by rw [hRc]; omega, by rw [hRs]; omega⟩ (fun r hq9 => ?_)
          have hq9 : r = nI (costN (rf p9.2.2) p9.2.1.length) := by rw [hq9, hp9]
          rw [hq9]
          refine lv_iconst (v := nI 3) hx hb dL_law_467 (by decide) ?_
          refine lv_iload hx hb dL_law_468 (lv_at hl 0 rfl) ?_
          refine lv_imul hx hb dL_law_470 ?_
          refine zti (pk_mul _ _) (y := nI (3 * (litN (rf p9.2.2) p9.2.1.length))) ?_
          refine lv_iconst (v := nI 5) hx hb dL_law_471 (by decide) ?_
          refine lv_iload hx hb dL_law_472 (lv_at hl 17 rfl) ?_
          refine lv_imul hx hb dL_law_474 ?_
          refine zti (pk_mul _ _) (y := nI (5 * cp)) ?_
          refine lv_iadd hx hb dL_law_475 ?_
          refine zti (nI_add _ _) (y := nI (3 * (litN (rf p9.2.2) p9.2.1.length) + (5 * cp))) ?_
          refine z_icmp_le (tgt := 481) hx hb (by omega) (by omega) dL_law_476 (by decide) (fun hc476 => ?_) (fun hc476 => ?_)
          · skip
            have hc476 : costN (rf p9.2.2) p9.2.1.length ≤ 3 * (litN (rf p9.2.2) p9.2.1.length) + (5 * cp) := hc476
            refine lv_iload hx hb dL_law_481 (lv_at hl 13 rfl) ?_
            refine lv_iload hx hb dL_law_483 (lv_at hl 10 rfl) ?_
            refine z_icmp_ne (tgt := 503) hx hb (by omega) (by omega) dL_law_485 (by decide) (fun hc485 => ?_) (fun hc485 => ?_)
            · skip
              have hc485 : ¬ j9 = pp := hc485
              exact kk ls (lv_sub hl [1, 2, 3, 4, 5, 6, 7, 8, 9, 10, 11, 12, 13, 14, 15] rfl)
            · skip
              have hc485 : j9 = pp := hc485
              refine lv_aload hx hb dL_law_488 (lv_at hl 14 rfl) ?_
              refine z_alen (n := p9.1.length) hx hb hK (hW.mem (XW_y _ hrb)) dL_law_490 ?_
              refine lv_iload hx hb dL_law_491 (lv_at hl 9 rfl) ?_
              refine z_icmp_ge (tgt := 503) hx hb (by omega) (by omega) dL_law_493 (by decide) (fun hc493 => ?_) (fun hc493 => ?_)
              · skip
                have hc493 : sz ≤ p9.1.length := hc493
                exact kk ls (lv_sub hl [1, 2, 3, 4, 5, 6, 7, 8, 9, 10, 11, 12, 13, 14, 15] rfl)
              · skip
                have hc493 : p9.1.length < sz := hc493
                refine lv_iload hx hb dL_law_496 (lv_at hl 17 rfl) ?_
                refine z_ifn_eq (tgt := 503) hx hb (by omega) dL_law_498 (by decide) (fun hc498 => ?_) (fun hc498 => ?_)
                · skip
                  have hc498 : cp = 0 := hc498
                  exact kk ls (lv_sub hl [1, 2, 3, 4, 5, 6, 7, 8, 9, 10, 11, 12, 13, 14, 15] rfl)
                · skip
                  have hc498 : ¬ cp = 0 := hc498
                  exact absurd (hnb hc485 hc493) (fun h9 => hc498 (by omega))
          · skip
            have hc476 : 3 * (litN (rf p9.2.2) p9.2.1.length) + (5 * cp) < costN (rf p9.2.2) p9.2.1.length := hc476
            omega
  · skip
    have hc251 : ki < manyN (rf p9.2.2) p9.2.1.length := hc251
    have hki9 : ki < manyN (rf p9.2.2) p9.2.1.length := hc251
    obtain ⟨po1, po2, po3⟩ := ps_ok hki9
    obtain ⟨en1, en2, en3⟩ := en_ok hki9
    have ea9 : atN (rf p9.2.2) p9.2.1.length ki = posN (rf p9.2.2) p9.2.1.length ki := at_s hki9
    have ee9 : atN (rf p9.2.2) p9.2.1.length (ki + 1) = endN (rf p9.2.2) p9.2.1.length ki := rfl
    obtain ⟨m9, hm9⟩ : ∃ z, z = (endN (rf p9.2.2) p9.2.1.length ki) - (posN (rf p9.2.2) p9.2.1.length ki) := ⟨_, rfl⟩
    rw [ea9] at hl hcp
    by_cases lit9 : (rf p9.2.2) (posN (rf p9.2.2) p9.2.1.length ki) = (-1)
    · skip
      obtain ⟨te0, te1, te2, te3⟩ := tell_l (v := bv p9.2.1) lit9
      rw [← hm9] at te2 te3
      have li9 := lit_l hki9 lit9 m9 (by omega)
      have wl9 := wsum_lt (bv p9.2.1) (posN (rf p9.2.2) p9.2.1.length ki) m9
      have ne9 : (posN (rf p9.2.2) p9.2.1.length ki) + m9 = (endN (rf p9.2.2) p9.2.1.length ki) := by omega
      rw [ne9] at li9
      refine lv_aload_n hx hb dL_law_254 rfl (lv_at hl 1 rfl) ?_
      refine lv_iload hx hb dL_law_255 (lv_at hl 12 rfl) ?_
      refine lv_iload hx hb dL_law_257 (lv_at hl 18 rfl) ?_
      refine lv_iconst (v := nI 0) hx hb dL_law_259 (by decide) ?_
      refine z_ceV (As := [.int (nI j9), .int (nI ki), .int (nI 0)]) (rest := []) ⟨hx, hb, hml, hown, hts⟩ (c_X2_instruction l D cs S0 ea mi sa a u σ j9 ki 0 hj (by rw [hp9]; exact hki9) (by decide)) (cwV 3 hts gL_law_X2_instruction rfl rfl rfl (by decide +kernel) ⟨Nat.le_of_ble_eq_true rfl, Nat.le_of_ble_eq_true rfl⟩) hXH.1 rfl hXH hK hE hS rfl hl.1 rfl (Nat.le_of_ble_eq_true rfl) dL_law_260 ⟨by rw [hRc]; omega, by rw [hRs]; omega⟩ (fun r hq9 => ?_)
      have hq9 : r = nI 1 := by rw [hq9, hp9]; exact te0
      rw [hq9]
      refine lv_istore (lv' := [(19, .int (nI 1)), (0, .ref b9), (1, .ref (a 0)), (2, .ref q9a), (3, .int (nI kz)), (4, .int xz), (5, .int (nI aa)), (6, .int (nI ba9)), (7, .int (nI ca)), (8, .int (nI sz)), (9, .int (nI pp)), (10, .int (nI (pp + 1))), (11, .int (nI (pp + 1 + 1))), (12, .int (nI j9)), (13, .ref rb), (14, .ref rg), (15, .int (nI (posN (rf p9.2.2) p9.2.1.length ki))), (16, .int (nI cp)), (17, .int bf), (18, .int (nI ki))]) hx hb dL_law_263 hl (by decide) rfl (fun ls hl => ?_)
      refine lv_aload_n hx hb dL_law_265 rfl (lv_at hl 2 rfl) ?_
      refine lv_iload hx hb dL_law_266 (lv_at hl 13 rfl) ?_
      refine lv_iload hx hb dL_law_268 (lv_at hl 19 rfl) ?_
      refine lv_iconst (v := nI 1) hx hb dL_law_270 (by decide) ?_
      refine z_ceV (As := [.int (nI j9), .int (nI ki), .int (nI 1)]) (rest := []) ⟨hx, hb, hml, hown, hts⟩ (c_X2_instruction l D cs S0 ea mi sa a u σ j9 ki 1 hj (by rw [hp9]; exact hki9) (by decide)) (cwV 3 hts gL_law_X2_instruction rfl rfl rfl (by decide +kernel) ⟨Nat.le_of_ble_eq_true rfl, Nat.le_of_ble_eq_true rfl⟩) hXH.1 rfl hXH hK hE hS rfl hl.1 rfl (Nat.le_of_ble_eq_true rfl) dL_law_271 ⟨by rw [hRc]; omega, by rw [hRs]; omega⟩ (fun r hq9 => ?_)
      have hq9 : r = (-1 : Int32) := by rw [hq9, hp9]; exact te1
      rw [hq9]
      refine lv_istore (lv' := [(20, .int (-1 : Int32)), (19, .int (nI 1)), (0, .ref b9), (1, .ref (a 0)), (2, .ref q9a), (3, .int (nI kz)), (4, .int xz), (5, .int (nI aa)), (6, .int (nI ba9)), (7, .int (nI ca)), (8, .int (nI sz)), (9, .int (nI pp)), (10, .int (nI (pp + 1))), (11, .int (nI (pp + 1 + 1))), (12, .int (nI j9)), (13, .ref rb), (14, .ref rg), (15, .int (nI (posN (rf p9.2.2) p9.2.1.length ki))), (16, .int (nI cp)), (17, .int bf), (18, .int (nI ki))]) hx hb dL_law_274 hl (by decide) rfl (fun ls hl => ?_)
      refine lv_aload_n hx hb dL_law_276 rfl (lv_at hl 3 rfl) ?_
      refine lv_iload hx hb dL_law_277 (lv_at hl 14 rfl) ?_
      refine lv_iload hx hb dL_law_279 (lv_at hl 20 rfl) ?_
      refine lv_iconst (v := nI 2) hx hb dL_law_281 (by decide) ?_
      refine z_ceV (As := [.int (nI j9), .int (nI ki), .int (nI 2)]) (rest := []) ⟨hx, hb, hml, hown, hts⟩ (c_X2_instruction l D cs S0 ea mi sa a u σ j9 ki 2 hj (by rw [hp9]; exact hki9) (by decide)) (cwV 3 hts gL_law_X2_instruction rfl rfl rfl (by decide +kernel) ⟨Nat.le_of_ble_eq_true rfl, Nat.le_of_ble_eq_true rfl⟩) hXH.1 rfl hXH hK hE hS rfl hl.1 rfl (Nat.le_of_ble_eq_true rfl) dL_law_282 ⟨by rw [hRc]; omega, by rw [hRs]; omega⟩ (fun r hq9 => ?_)
      have hq9 : r = nI m9 := by rw [hq9, hp9]; exact te2
      rw [hq9]
      refine lv_istore (lv' := [(21, .int (nI m9)), (20, .int (-1 : Int32)), (19, .int (nI 1)), (0, .ref b9), (1, .ref (a 0)), (2, .ref q9a), (3, .int (nI kz)), (4, .int xz), (5, .int (nI aa)), (6, .int (nI ba9)), (7, .int (nI ca)), (8, .int (nI sz)), (9, .int (nI pp)), (10, .int (nI (pp + 1))), (11, .int (nI (pp + 1 + 1))), (12, .int (nI j9)), (13, .ref rb), (14, .ref rg), (15, .int (nI (posN (rf p9.2.2) p9.2.1.length ki))), (16, .int (nI cp)), (17, .int bf), (18, .int (nI ki))]) hx hb dL_law_285 hl (by decide) rfl (fun ls hl => ?_)
      refine lv_iload hx hb dL_law_287 (lv_at hl 0 rfl) ?_
      refine lv_iconst (v := nI 1) hx hb dL_law_289 (by decide) ?_
      refine z_icmp_lt (tgt := 342) hx hb (by omega) (by omega) dL_law_290 (by decide) (fun hc290 => ?_) (fun hc290 => ?_)
      · skip
        have hc290 : m9 < 1 := hc290
        omega
      · skip
        have hc290 : 1 ≤ m9 := hc290
        refine lv_iload hx hb dL_law_293 (lv_at hl 2 rfl) ?_
        refine lv_iconst (v := nI 1) hx hb dL_law_295 (by decide) ?_
        refine z_icmp_ne (tgt := 305) hx hb (by omega) (by omega) dL_law_296 (by decide) (fun hc296 => ?_) (fun hc296 => ?_)
        · skip
          have hc296 : ¬ 1 = 1 := hc296
          exact absurd rfl hc296
        · skip
          have hc296 : 1 = 1 := hc296
          refine lv_iload hx hb dL_law_299 (lv_at hl 20 rfl) ?_
          refine lv_iconst (v := nI 1) hx hb dL_law_301 (by decide) ?_
          refine lv_icmp_eq (tgt := 342) hx hb dL_law_302 (by decide) (fun hc302 => ?_) (fun hc302 => ?_)
          · skip
            have hc302 : bf = (nI 1) := hc302
            exact absurd hki9 (fun h9 => hbf hc302 h9 lit9)
          · skip
            have hc302 : ¬ bf = (nI 1) := hc302
            refine lv_iload hx hb dL_law_305 (lv_at hl 2 rfl) ?_
            refine lv_if_ne (tgt := 344) hx hb dL_law_307 (by decide) (fun _ => ?_) (fun h9 => absurd h9 (by decide))
            refine lv_iload hx hb dL_law_344 (lv_at hl 2 rfl) ?_
            refine lv_iconst (v := nI 1) hx hb dL_law_346 (by decide) ?_
            refine z_icmp_ne (tgt := 373) hx hb (by omega) (by omega) dL_law_347 (by decide) (fun hc347 => ?_) (fun hc347 => ?_)
            · skip
              have hc347 : ¬ 1 = 1 := hc347
              exact absurd rfl hc347
            · skip
              have hc347 : 1 = 1 := hc347
              refine lv_aload_n hx hb dL_law_350 rfl (lv_at hl 4 rfl) ?_
              refine lv_iload hx hb dL_law_351 (lv_at hl 15 rfl) ?_
              refine lv_iload hx hb dL_law_353 (lv_at hl 21 rfl) ?_
              refine lv_iconst (v := nI 3) hx hb dL_law_355 (by decide) ?_
              refine z_ceV (As := [.int (nI j9), .int (nI ki), .int (nI 3)]) (rest := []) ⟨hx, hb, hml, hown, hts⟩ (c_X2_instruction l D cs S0 ea mi sa a u σ j9 ki 3 hj (by rw [hp9]; exact hki9) (by decide)) (cwV 3 hts gL_law_X2_instruction rfl rfl rfl (by decide +kernel) ⟨Nat.le_of_ble_eq_true rfl, Nat.le_of_ble_eq_true rfl⟩) hXH.1 rfl hXH hK hE hS rfl hl.1 rfl (Nat.le_of_ble_eq_true rfl) dL_law_356 ⟨by rw [hRc]; omega, by rw [hRs]; omega⟩ (fun r hq9 => ?_)
              have hq9 : r = nI (wsum (bv p9.2.1) (posN (rf p9.2.2) p9.2.1.length ki) m9) := by rw [hq9, hp9]; exact te3
              rw [hq9]
              refine lv_aload hx hb dL_law_359 (lv_at hl 17 rfl) ?_
              refine lv_iload hx hb dL_law_361 (lv_at hl 18 rfl) ?_
              refine lv_iload hx hb dL_law_363 (lv_at hl 0 rfl) ?_
              refine z_csS (As := [.ref rg, .int (nI (posN (rf p9.2.2) p9.2.1.length ki)), .int (nI m9)]) (rest := [.int (nI (wsum (bv p9.2.1) (posN (rf p9.2.2) p9.2.1.length ki) m9))]) ⟨hx, hb, hml, hown, hts⟩ (c_L_sum l D cs rg p9.2.1.length (bv p9.2.1) hok9.2.1.2 (posN (rf p9.2.2) p9.2.1.length ki) m9 (by omega) (by omega) (by omega)) (va_cwS 3 hts gL_law_L_sum rfl rfl rfl (by decide +kernel) ⟨Nat.le_of_ble_eq_true rfl, Nat.le_of_ble_eq_true rfl⟩) (hW.mem (XW_y _ hrg)) hK rfl hl.1 rfl (Nat.le_of_ble_eq_true rfl) dL_law_365 ⟨by rw [hRc]; omega, by rw [hRs]; omega⟩ (fun r hq9 => ?_)
              have hq9 : r = nI (wsum (bv p9.2.1) (posN (rf p9.2.2) p9.2.1.length ki) m9) := hq9
              subst hq9
              refine z_icmp_eq (tgt := 373) hx hb (by omega) (by omega) dL_law_368 (by decide) (fun hc368 => ?_) (fun hc368 => ?_)
              · skip
                have hc368 : wsum (bv p9.2.1) (posN (rf p9.2.2) p9.2.1.length ki) m9 = wsum (bv p9.2.1) (posN (rf p9.2.2) p9.2.1.length ki) m9 := hc368
                refine lv_iload hx hb dL_law_373 (lv_at hl 19 rfl) ?_
                refine lv_iload hx hb dL_law_375 (lv_at hl 2 rfl) ?_
                refine lv_if_ne (tgt := 385) hx hb dL_law_377 (by decide) (fun _ => ?_) (fun h9 => absurd h9 (by decide))
                refine lv_iconst (v := nI 0) hx hb dL_law_385 (by decide) ?_
                refine lv_iadd hx hb dL_law_386 ?_
                refine zti (nI_add _ _) (y := nI (cp + 0)) ?_
                refine lv_istore (lv' := [(16, .int (nI (cp + 0))), (21, .int (nI m9)), (20, .int (-1 : Int32)), (19, .int (nI 1)), (0, .ref b9), (1, .ref (a 0)), (2, .ref q9a), (3, .int (nI kz)), (4, .int xz), (5, .int (nI aa)), (6, .int (nI ba9)), (7, .int (nI ca)), (8, .int (nI sz)), (9, .int (nI pp)), (10, .int (nI (pp + 1))), (11, .int (nI (pp + 1 + 1))), (12, .int (nI j9)), (13, .ref rb), (14, .ref rg), (15, .int (nI (posN (rf p9.2.2) p9.2.1.length ki))), (17, .int bf), (18, .int (nI ki))]) hx hb dL_law_387 hl (by decide) rfl (fun ls hl => ?_)
                refine lv_iload hx hb dL_law_389 (lv_at hl 19 rfl) ?_
                refine lv_iload hx hb dL_law_391 (lv_at hl 1 rfl) ?_
                refine lv_iadd hx hb dL_law_393 ?_
                refine zti (nI_add _ _) (y := nI (posN (rf p9.2.2) p9.2.1.length ki + m9)) ?_
                refine zti (y := nI (atN (rf p9.2.2) p9.2.1.length (ki + 1))) (by rw [ee9, ← ne9]) ?_
                refine lv_istore (lv' := [(15, .int (nI (atN (rf p9.2.2) p9.2.1.length (ki + 1)))), (16, .int (nI (cp + 0))), (21, .int (nI m9)), (20, .int (-1 : Int32)), (19, .int (nI 1)), (0, .ref b9), (1, .ref (a 0)), (2, .ref q9a), (3, .int (nI kz)), (4, .int xz), (5, .int (nI aa)), (6, .int (nI ba9)), (7, .int (nI ca)), (8, .int (nI sz)), (9, .int (nI pp)), (10, .int (nI (pp + 1))), (11, .int (nI (pp + 1 + 1))), (12, .int (nI j9)), (13, .ref rb), (14, .ref rg), (17, .int bf), (18, .int (nI ki))]) hx hb dL_law_394 hl (by decide) rfl (fun ls hl => ?_)
                refine lv_iload hx hb dL_law_396 (lv_at hl 4 rfl) ?_
                refine lv_istore (lv' := [(17, .int (nI 1)), (15, .int (nI (atN (rf p9.2.2) p9.2.1.length (ki + 1)))), (16, .int (nI (cp + 0))), (21, .int (nI m9)), (20, .int (-1 : Int32)), (19, .int (nI 1)), (0, .ref b9), (1, .ref (a 0)), (2, .ref q9a), (3, .int (nI kz)), (4, .int xz), (5, .int (nI aa)), (6, .int (nI ba9)), (7, .int (nI ca)), (8, .int (nI sz)), (9, .int (nI pp)), (10, .int (nI (pp + 1))), (11, .int (nI (pp + 1 + 1))), (12, .int (nI j9)), (13, .ref rb), (14, .ref rg), (18, .int (nI ki))]) hx hb dL_law_398 hl (by decide) rfl (fun ls hl => ?_)
                refine lv_iinc (v := nI (ki + 1)) (lv' := [(18, .int (nI (ki + 1))), (17, .int (nI 1)), (15, .int (nI (atN (rf p9.2.2) p9.2.1.length (ki + 1)))), (16, .int (nI (cp + 0))), (21, .int (nI m9)), (20, .int (-1 : Int32)), (19, .int (nI 1)), (0, .ref b9), (1, .ref (a 0)), (2, .ref q9a), (3, .int (nI kz)), (4, .int xz), (5, .int (nI aa)), (6, .int (nI ba9)), (7, .int (nI ca)), (8, .int (nI sz)), (9, .int (nI pp)), (10, .int (nI (pp + 1))), (11, .int (nI (pp + 1 + 1))), (12, .int (nI j9)), (13, .ref rb), (14, .ref rg)]) hx hb dL_law_400 hl (k := 21) rfl (z_inc _) (by decide) rfl (fun ls hl => ?_)
                refine lv_goto (tgt := 243) hx hb dL_law_403 (by decide) ?_
                exact ih243 ((ki + 1), (cp + 0), (nI 1)) ls (show manyN (rf p9.2.2) p9.2.1.length - (ki + 1) < dd243 by omega) ⟨lv_sub hl [7, 8, 9, 10, 11, 12, 13, 14, 15, 16, 17, 18, 19, 20, 21, 2, 3, 1, 0] rfl, (show (ki + 1) ≤ manyN (rf p9.2.2) p9.2.1.length from (by omega)), (show (cp + 0) + litN (rf p9.2.2) (atN (rf p9.2.2) p9.2.1.length (ki + 1)) = atN (rf p9.2.2) p9.2.1.length (ki + 1) from (by rw [ee9]; omega)), (show (nI 1) = nI 1 → (ki + 1) < manyN (rf p9.2.2) p9.2.1.length → ¬ (rf p9.2.2) (posN (rf p9.2.2) p9.2.1.length (ki + 1)) = (-1) from (fun h9 hi9 => lit_next hi9 lit9))⟩
              · skip
                have hc368 : ¬ wsum (bv p9.2.1) (posN (rf p9.2.2) p9.2.1.length ki) m9 = wsum (bv p9.2.1) (posN (rf p9.2.2) p9.2.1.length ki) m9 := hc368
                exact absurd rfl hc368
    · skip
      obtain ⟨fj, cj1, cj2, cj3⟩ := cpy hPG hok9 hki9 lit9
      obtain ⟨te0, te1, te2⟩ := tell_c (v := bv p9.2.1) cj1 (by omega)
      rw [← hm9] at te2 cj2 cj3
      have li9 := lit_c hki9 cj1 (by omega) m9 (by omega)
      have ne9 : (posN (rf p9.2.2) p9.2.1.length ki) + m9 = (endN (rf p9.2.2) p9.2.1.length ki) := by omega
      rw [ne9] at li9
      refine lv_aload_n hx hb dL_law_254 rfl (lv_at hl 1 rfl) ?_
      refine lv_iload hx hb dL_law_255 (lv_at hl 12 rfl) ?_
      refine lv_iload hx hb dL_law_257 (lv_at hl 18 rfl) ?_
      refine lv_iconst (v := nI 0) hx hb dL_law_259 (by decide) ?_
      refine z_ceV (As := [.int (nI j9), .int (nI ki), .int (nI 0)]) (rest := []) ⟨hx, hb, hml, hown, hts⟩ (c_X2_instruction l D cs S0 ea mi sa a u σ j9 ki 0 hj (by rw [hp9]; exact hki9) (by decide)) (cwV 3 hts gL_law_X2_instruction rfl rfl rfl (by decide +kernel) ⟨Nat.le_of_ble_eq_true rfl, Nat.le_of_ble_eq_true rfl⟩) hXH.1 rfl hXH hK hE hS rfl hl.1 rfl (Nat.le_of_ble_eq_true rfl) dL_law_260 ⟨by rw [hRc]; omega, by rw [hRs]; omega⟩ (fun r hq9 => ?_)
      have hq9 : r = nI 0 := by rw [hq9, hp9]; exact te0
      rw [hq9]
      refine lv_istore (lv' := [(19, .int (nI 0)), (0, .ref b9), (1, .ref (a 0)), (2, .ref q9a), (3, .int (nI kz)), (4, .int xz), (5, .int (nI aa)), (6, .int (nI ba9)), (7, .int (nI ca)), (8, .int (nI sz)), (9, .int (nI pp)), (10, .int (nI (pp + 1))), (11, .int (nI (pp + 1 + 1))), (12, .int (nI j9)), (13, .ref rb), (14, .ref rg), (15, .int (nI (posN (rf p9.2.2) p9.2.1.length ki))), (16, .int (nI cp)), (17, .int bf), (18, .int (nI ki))]) hx hb dL_law_263 hl (by decide) rfl (fun ls hl => ?_)
      refine lv_aload_n hx hb dL_law_265 rfl (lv_at hl 2 rfl) ?_
      refine lv_iload hx hb dL_law_266 (lv_at hl 13 rfl) ?_
      refine lv_iload hx hb dL_law_268 (lv_at hl 19 rfl) ?_
      refine lv_iconst (v := nI 1) hx hb dL_law_270 (by decide) ?_
      refine z_ceV (As := [.int (nI j9), .int (nI ki), .int (nI 1)]) (rest := []) ⟨hx, hb, hml, hown, hts⟩ (c_X2_instruction l D cs S0 ea mi sa a u σ j9 ki 1 hj (by rw [hp9]; exact hki9) (by decide)) (cwV 3 hts gL_law_X2_instruction rfl rfl rfl (by decide +kernel) ⟨Nat.le_of_ble_eq_true rfl, Nat.le_of_ble_eq_true rfl⟩) hXH.1 rfl hXH hK hE hS rfl hl.1 rfl (Nat.le_of_ble_eq_true rfl) dL_law_271 ⟨by rw [hRc]; omega, by rw [hRs]; omega⟩ (fun r hq9 => ?_)
      have hq9 : r = nI fj := by rw [hq9, hp9]; exact te1
      rw [hq9]
      refine lv_istore (lv' := [(20, .int (nI fj)), (19, .int (nI 0)), (0, .ref b9), (1, .ref (a 0)), (2, .ref q9a), (3, .int (nI kz)), (4, .int xz), (5, .int (nI aa)), (6, .int (nI ba9)), (7, .int (nI ca)), (8, .int (nI sz)), (9, .int (nI pp)), (10, .int (nI (pp + 1))), (11, .int (nI (pp + 1 + 1))), (12, .int (nI j9)), (13, .ref rb), (14, .ref rg), (15, .int (nI (posN (rf p9.2.2) p9.2.1.length ki))), (16, .int (nI cp)), (17, .int bf), (18, .int (nI ki))]) hx hb dL_law_274 hl (by decide) rfl (fun ls hl => ?_)
      refine lv_aload_n hx hb dL_law_276 rfl (lv_at hl 3 rfl) ?_
      refine lv_iload hx hb dL_law_277 (lv_at hl 14 rfl) ?_
      refine lv_iload hx hb dL_law_279 (lv_at hl 20 rfl) ?_
      refine lv_iconst (v := nI 2) hx hb dL_law_281 (by decide) ?_
      refine z_ceV (As := [.int (nI j9), .int (nI ki), .int (nI 2)]) (rest := []) ⟨hx, hb, hml, hown, hts⟩ (c_X2_instruction l D cs S0 ea mi sa a u σ j9 ki 2 hj (by rw [hp9]; exact hki9) (by decide)) (cwV 3 hts gL_law_X2_instruction rfl rfl rfl (by decide +kernel) ⟨Nat.le_of_ble_eq_true rfl, Nat.le_of_ble_eq_true rfl⟩) hXH.1 rfl hXH hK hE hS rfl hl.1 rfl (Nat.le_of_ble_eq_true rfl) dL_law_282 ⟨by rw [hRc]; omega, by rw [hRs]; omega⟩ (fun r hq9 => ?_)
      have hq9 : r = nI m9 := by rw [hq9, hp9]; exact te2
      rw [hq9]
      refine lv_istore (lv' := [(21, .int (nI m9)), (20, .int (nI fj)), (19, .int (nI 0)), (0, .ref b9), (1, .ref (a 0)), (2, .ref q9a), (3, .int (nI kz)), (4, .int xz), (5, .int (nI aa)), (6, .int (nI ba9)), (7, .int (nI ca)), (8, .int (nI sz)), (9, .int (nI pp)), (10, .int (nI (pp + 1))), (11, .int (nI (pp + 1 + 1))), (12, .int (nI j9)), (13, .ref rb), (14, .ref rg), (15, .int (nI (posN (rf p9.2.2) p9.2.1.length ki))), (16, .int (nI cp)), (17, .int bf), (18, .int (nI ki))]) hx hb dL_law_285 hl (by decide) rfl (fun ls hl => ?_)
      refine lv_iload hx hb dL_law_287 (lv_at hl 0 rfl) ?_
      refine lv_iconst (v := nI 1) hx hb dL_law_289 (by decide) ?_
      refine z_icmp_lt (tgt := 342) hx hb (by omega) (by omega) dL_law_290 (by decide) (fun hc290 => ?_) (fun hc290 => ?_)
      · skip
        have hc290 : m9 < 1 := hc290
        omega
      · skip
        have hc290 : 1 ≤ m9 := hc290
        refine lv_iload hx hb dL_law_293 (lv_at hl 2 rfl) ?_
        refine lv_iconst (v := nI 1) hx hb dL_law_295 (by decide) ?_
        refine z_icmp_ne (tgt := 305) hx hb (by omega) (by omega) dL_law_296 (by decide) (fun hc296 => ?_) (fun hc296 => ?_)
        · skip
          have hc296 : ¬ 0 = 1 := hc296
          refine lv_iload hx hb dL_law_305 (lv_at hl 2 rfl) ?_
          refine lv_if_ne (tgt := 344) hx hb dL_law_307 (by decide) (fun h9 => absurd (by decide) h9) (fun _ => ?_)
          refine lv_iload hx hb dL_law_310 (lv_at hl 1 rfl) ?_
          refine z_ifn_lt (tgt := 342) hx hb (by omega) dL_law_312 (by decide) ?_
          refine lv_iload hx hb dL_law_315 (lv_at hl 1 rfl) ?_
          refine lv_iload hx hb dL_law_317 (lv_at hl 0 rfl) ?_
          refine lv_iadd hx hb dL_law_319 ?_
          refine zti (nI_add _ _) (y := nI (fj + m9)) ?_
          refine lv_aload hx hb dL_law_320 (lv_at hl 16 rfl) ?_
          refine z_alen (n := p9.1.length) hx hb hK (hW.mem (XW_y _ hrb)) dL_law_322 ?_
          refine z_icmp_gt (tgt := 342) hx hb (by omega) (by omega) dL_law_323 (by decide) (fun hc323 => ?_) (fun hc323 => ?_)
          · skip
            have hc323 : p9.1.length < fj + m9 := hc323
            omega
          · skip
            have hc323 : fj + m9 ≤ p9.1.length := hc323
            refine lv_aload hx hb dL_law_326 (lv_at hl 16 rfl) ?_
            refine lv_iload hx hb dL_law_328 (lv_at hl 1 rfl) ?_
            refine lv_aload hx hb dL_law_330 (lv_at hl 17 rfl) ?_
            refine lv_iload hx hb dL_law_332 (lv_at hl 18 rfl) ?_
            refine lv_iload hx hb dL_law_334 (lv_at hl 0 rfl) ?_
            refine z_csS (As := [.ref rb, .int (nI fj), .ref rg, .int (nI (posN (rf p9.2.2) p9.2.1.length ki)), .int (nI m9)]) (rest := []) ⟨hx, hb, hml, hown, hts⟩ (c_L_isLike l D cs rb rg p9.1.length p9.2.1.length (bb p9.1) (bb p9.2.1) fj (posN (rf p9.2.2) p9.2.1.length ki) m9 (by omega) (by omega) (by omega) (by omega)) (va_cwS 5 hts gL_law_L_isLike rfl rfl rfl (by decide +kernel) ⟨Nat.le_of_ble_eq_true rfl, Nat.le_of_ble_eq_true rfl⟩) ⟨hW.mem (XW_y _ hrb), hW.mem (XW_y _ hrg)⟩ hK rfl hl.1 rfl (Nat.le_of_ble_eq_true rfl) dL_law_336 ⟨by rw [hRc]; omega, by rw [hRs]; omega⟩ (fun r hq9 => ?_)
            have hq9 : r = bI (stB (bb p9.1) (bb p9.2.1) fj (posN (rf p9.2.2) p9.2.1.length ki) m9) := hq9
            subst hq9
            refine zti (y := bI true) (by rw [cj3]) ?_
            refine z_ifb_ne (tgt := 344) hx hb dL_law_339 (by decide) (fun _ => ?_) (fun h9 => absurd h9 (by decide))
            refine lv_iload hx hb dL_law_344 (lv_at hl 2 rfl) ?_
            refine lv_iconst (v := nI 1) hx hb dL_law_346 (by decide) ?_
            refine z_icmp_ne (tgt := 373) hx hb (by omega) (by omega) dL_law_347 (by decide) (fun hc347 => ?_) (fun hc347 => ?_)
            · skip
              have hc347 : ¬ 0 = 1 := hc347
              refine lv_iload hx hb dL_law_373 (lv_at hl 19 rfl) ?_
              refine lv_iload hx hb dL_law_375 (lv_at hl 2 rfl) ?_
              refine lv_if_ne (tgt := 385) hx hb dL_law_377 (by decide) (fun h9 => absurd (by decide) h9) (fun _ => ?_)
              refine lv_iload hx hb dL_law_380 (lv_at hl 0 rfl) ?_
              refine lv_goto (tgt := 386) hx hb dL_law_382 (by decide) ?_
              refine lv_iadd hx hb dL_law_386 ?_
              refine zti (nI_add _ _) (y := nI (cp + m9)) ?_
              refine lv_istore (lv' := [(16, .int (nI (cp + m9))), (21, .int (nI m9)), (20, .int (nI fj)), (19, .int (nI 0)), (0, .ref b9), (1, .ref (a 0)), (2, .ref q9a), (3, .int (nI kz)), (4, .int xz), (5, .int (nI aa)), (6, .int (nI ba9)), (7, .int (nI ca)), (8, .int (nI sz)), (9, .int (nI pp)), (10, .int (nI (pp + 1))), (11, .int (nI (pp + 1 + 1))), (12, .int (nI j9)), (13, .ref rb), (14, .ref rg), (15, .int (nI (posN (rf p9.2.2) p9.2.1.length ki))), (17, .int bf), (18, .int (nI ki))]) hx hb dL_law_387 hl (by decide) rfl (fun ls hl => ?_)
              refine lv_iload hx hb dL_law_389 (lv_at hl 19 rfl) ?_
              refine lv_iload hx hb dL_law_391 (lv_at hl 1 rfl) ?_
              refine lv_iadd hx hb dL_law_393 ?_
              refine zti (nI_add _ _) (y := nI (posN (rf p9.2.2) p9.2.1.length ki + m9)) ?_
              refine zti (y := nI (atN (rf p9.2.2) p9.2.1.length (ki + 1))) (by rw [ee9, ← ne9]) ?_
              refine lv_istore (lv' := [(15, .int (nI (atN (rf p9.2.2) p9.2.1.length (ki + 1)))), (16, .int (nI (cp + m9))), (21, .int (nI m9)), (20, .int (nI fj)), (19, .int (nI 0)), (0, .ref b9), (1, .ref (a 0)), (2, .ref q9a), (3, .int (nI kz)), (4, .int xz), (5, .int (nI aa)), (6, .int (nI ba9)), (7, .int (nI ca)), (8, .int (nI sz)), (9, .int (nI pp)), (10, .int (nI (pp + 1))), (11, .int (nI (pp + 1 + 1))), (12, .int (nI j9)), (13, .ref rb), (14, .ref rg), (17, .int bf), (18, .int (nI ki))]) hx hb dL_law_394 hl (by decide) rfl (fun ls hl => ?_)
              refine lv_iload hx hb dL_law_396 (lv_at hl 4 rfl) ?_
              refine lv_istore (lv' := [(17, .int (nI 0)), (15, .int (nI (atN (rf p9.2.2) p9.2.1.length (ki + 1)))), (16, .int (nI (cp + m9))), (21, .int (nI m9)), (20, .int (nI fj)), (19, .int (nI 0)), (0, .ref b9), (1, .ref (a 0)), (2, .ref q9a), (3, .int (nI kz)), (4, .int xz), (5, .int (nI aa)), (6, .int (nI ba9)), (7, .int (nI ca)), (8, .int (nI sz)), (9, .int (nI pp)), (10, .int (nI (pp + 1))), (11, .int (nI (pp + 1 + 1))), (12, .int (nI j9)), (13, .ref rb), (14, .ref rg), (18, .int (nI ki))]) hx hb dL_law_398 hl (by decide) rfl (fun ls hl => ?_)
              refine lv_iinc (v := nI (ki + 1)) (lv' := [(18, .int (nI (ki + 1))), (17, .int (nI 0)), (15, .int (nI (atN (rf p9.2.2) p9.2.1.length (ki + 1)))), (16, .int (nI (cp + m9))), (21, .int (nI m9)), (20, .int (nI fj)), (19, .int (nI 0)), (0, .ref b9), (1, .ref (a 0)), (2, .ref q9a), (3, .int (nI kz)), (4, .int xz), (5, .int (nI aa)), (6, .int (nI ba9)), (7, .int (nI ca)), (8, .int (nI sz)), (9, .int (nI pp)), (10, .int (nI (pp + 1))), (11, .int (nI (pp + 1 + 1))), (12, .int (nI j9)), (13, .ref rb), (14, .ref rg)]) hx hb dL_law_400 hl (k := 21) rfl (z_inc _) (by decide) rfl (fun ls hl => ?_)
              refine lv_goto (tgt := 243) hx hb dL_law_403 (by decide) ?_
              exact ih243 ((ki + 1), (cp + m9), (nI 0)) ls (show manyN (rf p9.2.2) p9.2.1.length - (ki + 1) < dd243 by omega) ⟨lv_sub hl [7, 8, 9, 10, 11, 12, 13, 14, 15, 16, 17, 18, 19, 20, 21, 2, 3, 1, 0] rfl, (show (ki + 1) ≤ manyN (rf p9.2.2) p9.2.1.length from (by omega)), (show (cp + m9) + litN (rf p9.2.2) (atN (rf p9.2.2) p9.2.1.length (ki + 1)) = atN (rf p9.2.2) p9.2.1.length (ki + 1) from (by rw [ee9]; omega)), (show (nI 0) = nI 1 → (ki + 1) < manyN (rf p9.2.2) p9.2.1.length → ¬ (rf p9.2.2) (posN (rf p9.2.2) p9.2.1.length (ki + 1)) = (-1) from (fun h9 => absurd h9 (by decide)))⟩
            · skip
              have hc347 : 0 = 1 := hc347
              exact absurd hc347 (by decide)
        · skip
          have hc296 : 0 = 1 := hc296
          exact absurd hc296 (by decide)
