/-! the law: the three patches of one turn -/
set_option maxHeartbeats 4000000 in
set_option maxRecDepth 100000 in
theorem law_pl {p : Program} {l : Launch} {e : Env} {s : State} {m : MethodId} {below : List Frame} {meth : Method} {c : Code} {b9 L : Nat} {xs : Nat → Int32} (hL : L ≤ 260) (C0 : lw_At p s m meth c b9 L xs) {D : va_G} {cs : Nat → ClassId} {ea mi : Nat} {sa : Nat → Nat} {S0 : Nat} (hS0 : S0 = s.heap.size) (E0 : lw_E D cs ea mi sa s) {a : Nat → Nat} {u : XU} {σ : St} {Y : va_W} {cells slots : Nat} {H : Heap} {locs : List Loc} {ls : Array Slot} (hcl : cells ≤ 600130) (hsl : slots ≤ 7301080) (hW : Wd D S0 (XW cs a u σ Y) H) (hF : XF cs ea u σ Y) (hS : va_S (SA S0) s.heap H locs) {q9a kz aa ba9 ca sz pp : Nat} {xz : Int32} (hp3 : pp + 3 = σ.2.2.1.length) (haa : aa < 4) (hbb : ba9 < 4) (hcc : ca < 4) (hsz : sz < 100) {fg : Nat → Option Nat} (hq : (q9a, qa cs 2 4 fg) ∈ Y) (gr : ∀ i, i < 4 → ∃ r, fg i = some r ∧ (r, ba cs (vsN σ.2.1 i)) ∈ Y) {P0 P1 P2 : Pt} (h0 : psN σ.2.2.1 pp = P0) (h1 : psN σ.2.2.1 (pp + 1) = P1) (h2 : psN σ.2.2.1 (pp + 1 + 1) = P2) (e00 : P0.1 = vsN σ.2.1 aa) (e01 : P0.2.1 = vsN σ.2.1 ba9) (e10 : P1.1 = vsN σ.2.1 ba9) (e11 : P1.2.1 = vsN σ.2.1 ca) (e20 : P2.1 = vsN σ.2.1 aa) (e21 : P2.2.1 = vsN σ.2.1 ca) (g0 : PG P0) (g1 : PG P1) (g2 : PG P2) (hnb : P0.1.length < sz → litN (rf P0.2.2) P0.2.1.length = P0.2.1.length) (hl : lv_has ls 22 [(0, .ref b9), (1, .ref (a 0)), (2, .ref q9a), (3, .int (nI kz)), (4, .int xz), (5, .int (nI aa)), (6, .int (nI ba9)), (7, .int (nI ca)), (8, .int (nI sz)), (9, .int (nI pp)), (10, .int (nI (pp + 1))), (11, .int (nI (pp + 1 + 1)))])
    (kk : ∀ ls : Array Slot, lv_has ls 22 [(0, .ref b9), (1, .ref (a 0)), (2, .ref q9a), (3, .int (nI kz)), (4, .int xz), (5, .int (nI aa)), (6, .int (nI ba9)), (7, .int (nI ca)), (8, .int (nI sz)), (9, .int (nI pp)), (10, .int (nI (pp + 1))), (11, .int (nI (pp + 1 + 1)))] → W p l e room_1 s m #[Value.ref b9] below meth c H locs cells slots (lw_Z below #[Value.ref b9] s) (F0 m 509 ls [])) : W p l e room_1 s m #[Value.ref b9] below meth c H locs cells slots (lw_Z below #[Value.ref b9] s) (F0 m 184 ls []) := by
  obtain ⟨hx, hb, hr, hml, hown, hts0, hX, hbl, hlocks, hgv⟩ := id C0
  obtain ⟨hK, hE9, hA9⟩ := id E0
  have hE : EV (SA S0) ea mi sa s s.heap := by rw [hS0]; exact hE9
  have hb0 := hb
  have hb : c.code = cL_law := hb
  have hown : s.vm.findClass RL = some m.cls := hown
  have hts : ∀ w ∈ wsL_law, w.before #[Value.ref b9] s = true := fun w h => hts0 w (wsL_law_in w h)
  have hRc : room_1.cells = 600130 := rfl
  have hRs : room_1.slots = 7301080 := rfl
  have hSS : S0 ≤ s.heap.size := Nat.le_of_eq hS0
  have hb9 : b9 < S0 := by omega
  have hXH := XH.of hW hF
  have hok := hF.2.2.2.2.2.2.2.2
  have hn12 := hok.2.2.1.1
  obtain ⟨r1, fa1, ra1⟩ := gr aa haa
  obtain ⟨r2, fa2, ra2⟩ := gr ba9 hbb
  obtain ⟨r3, fa3, ra3⟩ := gr ca hcc
  refine lv_iload hx hb dL_law_184 (lv_at hl 9 rfl) ?_
  refine lv_istore (lv' := [(12, .int (nI pp)), (0, .ref b9), (1, .ref (a 0)), (2, .ref q9a), (3, .int (nI kz)), (4, .int xz), (5, .int (nI aa)), (6, .int (nI ba9)), (7, .int (nI ca)), (8, .int (nI sz)), (9, .int (nI pp)), (10, .int (nI (pp + 1))), (11, .int (nI (pp + 1 + 1)))]) hx hb dL_law_186 hl (by decide) rfl (fun ls hl => ?_)
  have hl : lv_has ls 22 [(12, .int (nI pp)), (0, .ref b9), (1, .ref (a 0)), (2, .ref q9a), (3, .int (nI kz)), (4, .int xz), (5, .int (nI aa)), (6, .int (nI ba9)), (7, .int (nI ca)), (8, .int (nI sz)), (9, .int (nI pp)), (10, .int (nI (pp + 1))), (11, .int (nI (pp + 1 + 1)))] := hl
  refine z_loop (σ := Nat) (fun q9 => 3 - q9) (fun q9 ls => lv_has ls 22 [(0, .ref b9), (1, .ref (a 0)), (2, .ref q9a), (3, .int (nI kz)), (4, .int xz), (5, .int (nI aa)), (6, .int (nI ba9)), (7, .int (nI ca)), (8, .int (nI sz)), (9, .int (nI pp)), (10, .int (nI (pp + 1))), (11, .int (nI (pp + 1 + 1))), (12, .int (nI (pp + q9)))] ∧ (q9 ≤ 3)) 0 ⟨lv_sub hl [1, 2, 3, 4, 5, 6, 7, 8, 9, 10, 11, 12, 0] rfl, (show 0 ≤ 3 from by omega)⟩ (fun dd188 ih188 y9 ls hd9 hI9 => ?_)
  obtain ⟨tt, rfl⟩ : ∃ z, z = y9 := ⟨_, rfl⟩
  have hd188 : 3 - tt = dd188 := hd9
  have hI9 : lv_has ls 22 [(0, .ref b9), (1, .ref (a 0)), (2, .ref q9a), (3, .int (nI kz)), (4, .int xz), (5, .int (nI aa)), (6, .int (nI ba9)), (7, .int (nI ca)), (8, .int (nI sz)), (9, .int (nI pp)), (10, .int (nI (pp + 1))), (11, .int (nI (pp + 1 + 1))), (12, .int (nI (pp + tt)))] ∧ (tt ≤ 3) := hI9
  obtain ⟨hl, htt⟩ := hI9
  refine lv_iload hx hb dL_law_188 (lv_at hl 12 rfl) ?_
  refine lv_iload hx hb dL_law_190 (lv_at hl 11 rfl) ?_
  refine z_icmp_gt (tgt := 509) hx hb (by omega) (by omega) dL_law_192 (by decide) (fun hc192 => ?_) (fun hc192 => ?_)
  · skip
    have hc192 : pp + 1 + 1 < pp + tt := hc192
    exact kk ls (lv_sub hl [0, 1, 2, 3, 4, 5, 6, 7, 8, 9, 10, 11] rfl)
  · skip
    have hc192 : pp + tt ≤ pp + 1 + 1 := hc192
    refine lv_aload_n hx hb dL_law_195 rfl (lv_at hl 2 rfl) ?_
    refine lv_iload hx hb dL_law_196 (lv_at hl 12 rfl) ?_
    refine lv_iload hx hb dL_law_198 (lv_at hl 10 rfl) ?_
    refine z_icmp_ne (tgt := 208) hx hb (by omega) (by omega) dL_law_200 (by decide) (fun hc200 => ?_) (fun hc200 => ?_)
    · skip
      have hc200 : ¬ pp + tt = pp + 1 := hc200
      refine lv_iload hx hb dL_law_208 (lv_at hl 5 rfl) ?_
      refine z_aald (k := aa) (y := r1) (t0 := 2) hx hb hK (hW.mem (XW_y _ hq)) rfl rfl (by omega) (by omega) fa1 dL_law_210 ?_
      refine lv_astore (lv' := [(13, .ref r1), (0, .ref b9), (1, .ref (a 0)), (2, .ref q9a), (3, .int (nI kz)), (4, .int xz), (5, .int (nI aa)), (6, .int (nI ba9)), (7, .int (nI ca)), (8, .int (nI sz)), (9, .int (nI pp)), (10, .int (nI (pp + 1))), (11, .int (nI (pp + 1 + 1))), (12, .int (nI (pp + tt)))]) hx hb dL_law_211 hl (by decide) rfl (fun ls hl => ?_)
      refine lv_aload_n hx hb dL_law_213 rfl (lv_at hl 3 rfl) ?_
      refine lv_iload hx hb dL_law_214 (lv_at hl 13 rfl) ?_
      refine lv_iload hx hb dL_law_216 (lv_at hl 10 rfl) ?_
      refine z_icmp_ne (tgt := 226) hx hb (by omega) (by omega) dL_law_218 (by decide) (fun hc218 => ?_) (fun hc218 => ?_)
      · skip
        have hc218 : ¬ pp + tt = pp := hc218
        refine lv_iload hx hb dL_law_226 (lv_at hl 8 rfl) ?_
        refine z_aald (k := ca) (y := r3) (t0 := 2) hx hb hK (hW.mem (XW_y _ hq)) rfl rfl (by omega) (by omega) fa3 dL_law_228 ?_
        refine lv_astore (lv' := [(14, .ref r3), (13, .ref r1), (0, .ref b9), (1, .ref (a 0)), (2, .ref q9a), (3, .int (nI kz)), (4, .int xz), (5, .int (nI aa)), (6, .int (nI ba9)), (7, .int (nI ca)), (8, .int (nI sz)), (9, .int (nI pp)), (10, .int (nI (pp + 1))), (11, .int (nI (pp + 1 + 1))), (12, .int (nI (pp + tt)))]) hx hb dL_law_229 hl (by decide) rfl (fun ls hl => ?_)
        refine law_pa hL C0 hS0 E0 hcl hsl hW hF hS (q9a := q9a) (rb := r1) (rg := r3) (kz := kz) (aa := aa) (ba9 := ba9) (ca := ca) (sz := sz) (pp := pp) (j9 := pp + tt) (xz := xz) (by omega) (p9 := P2) (by rw [show pp + tt = pp + 1 + 1 by omega]; exact h2) g2 (by rw [e20]; exact ra1) (by rw [e21]; exact ra3) (by omega) hsz (fun h9 => absurd h9 (by omega)) (lv_sub hl [2, 3, 4, 5, 6, 7, 8, 9, 10, 11, 12, 13, 14, 1, 0] rfl) (fun ls hl => ?_)
        refine lv_iinc (v := nI (pp + tt + 1)) (lv' := [(12, .int (nI (pp + tt + 1))), (0, .ref b9), (1, .ref (a 0)), (2, .ref q9a), (3, .int (nI kz)), (4, .int xz), (5, .int (nI aa)), (6, .int (nI ba9)), (7, .int (nI ca)), (8, .int (nI sz)), (9, .int (nI pp)), (10, .int (nI (pp + 1))), (11, .int (nI (pp + 1 + 1))), (13, .ref r1), (14, .ref r3)]) hx hb dL_law_503 hl (k := 12) rfl (z_inc _) (by decide) rfl (fun ls hl => ?_)
        refine lv_goto (tgt := 188) hx hb dL_law_506 (by decide) ?_
        exact ih188 (tt + 1) ls (show 3 - (tt + 1) < dd188 by omega) ⟨lv_sub hl [1, 2, 3, 4, 5, 6, 7, 8, 9, 10, 11, 12, 0] rfl, (show (tt + 1) ≤ 3 from by omega)⟩
      · skip
        have hc218 : pp + tt = pp := hc218
        refine lv_iload hx hb dL_law_221 (lv_at hl 7 rfl) ?_
        refine lv_goto (tgt := 228) hx hb dL_law_223 (by decide) ?_
        refine z_aald (k := ba9) (y := r2) (t0 := 2) hx hb hK (hW.mem (XW_y _ hq)) rfl rfl (by omega) (by omega) fa2 dL_law_228 ?_
        refine lv_astore (lv' := [(14, .ref r2), (13, .ref r1), (0, .ref b9), (1, .ref (a 0)), (2, .ref q9a), (3, .int (nI kz)), (4, .int xz), (5, .int (nI aa)), (6, .int (nI ba9)), (7, .int (nI ca)), (8, .int (nI sz)), (9, .int (nI pp)), (10, .int (nI (pp + 1))), (11, .int (nI (pp + 1 + 1))), (12, .int (nI (pp + tt)))]) hx hb dL_law_229 hl (by decide) rfl (fun ls hl => ?_)
        refine law_pa hL C0 hS0 E0 hcl hsl hW hF hS (q9a := q9a) (rb := r1) (rg := r2) (kz := kz) (aa := aa) (ba9 := ba9) (ca := ca) (sz := sz) (pp := pp) (j9 := pp + tt) (xz := xz) (by omega) (p9 := P0) (by rw [show pp + tt = pp by omega]; exact h0) g0 (by rw [e00]; exact ra1) (by rw [e01]; exact ra2) (by omega) hsz (fun _ => hnb) (lv_sub hl [2, 3, 4, 5, 6, 7, 8, 9, 10, 11, 12, 13, 14, 1, 0] rfl) (fun ls hl => ?_)
        refine lv_iinc (v := nI (pp + tt + 1)) (lv' := [(12, .int (nI (pp + tt + 1))), (0, .ref b9), (1, .ref (a 0)), (2, .ref q9a), (3, .int (nI kz)), (4, .int xz), (5, .int (nI aa)), (6, .int (nI ba9)), (7, .int (nI ca)), (8, .int (nI sz)), (9, .int (nI pp)), (10, .int (nI (pp + 1))), (11, .int (nI (pp + 1 + 1))), (13, .ref r1), (14, .ref r2)]) hx hb dL_law_503 hl (k := 12) rfl (z_inc _) (by decide) rfl (fun ls hl => ?_)
        refine lv_goto (tgt := 188) hx hb dL_law_506 (by decide) ?_
        exact ih188 (tt + 1) ls (show 3 - (tt + 1) < dd188 by omega) ⟨lv_sub hl [1, 2, 3, 4, 5, 6, 7, 8, 9, 10, 11, 12, 0] rfl, (show (tt + 1) ≤ 3 from by omega)⟩
    · skip
      have hc200 : pp + tt = pp + 1 := hc200
      refine lv_iload hx hb dL_law_203 (lv_at hl 6 rfl) ?_
      refine lv_goto (tgt := 210) hx hb dL_law_205 (by decide) ?_
      refine z_aald (k := ba9) (y := r2) (t0 := 2) hx hb hK (hW.mem (XW_y _ hq)) rfl rfl (by omega) (by omega) fa2 dL_law_210 ?_
      refine lv_astore (lv' := [(13, .ref r2), (0, .ref b9), (1, .ref (a 0)), (2, .ref q9a), (3, .int (nI kz)), (4, .int xz), (5, .int (nI aa)), (6, .int (nI ba9)), (7, .int (nI ca)), (8, .int (nI sz)), (9, .int (nI pp)), (10, .int (nI (pp + 1))), (11, .int (nI (pp + 1 + 1))), (12, .int (nI (pp + tt)))]) hx hb dL_law_211 hl (by decide) rfl (fun ls hl => ?_)
      refine lv_aload_n hx hb dL_law_213 rfl (lv_at hl 3 rfl) ?_
      refine lv_iload hx hb dL_law_214 (lv_at hl 13 rfl) ?_
      refine lv_iload hx hb dL_law_216 (lv_at hl 10 rfl) ?_
      refine z_icmp_ne (tgt := 226) hx hb (by omega) (by omega) dL_law_218 (by decide) (fun hc218 => ?_) (fun hc218 => ?_)
      · skip
        have hc218 : ¬ pp + tt = pp := hc218
        refine lv_iload hx hb dL_law_226 (lv_at hl 8 rfl) ?_
        refine z_aald (k := ca) (y := r3) (t0 := 2) hx hb hK (hW.mem (XW_y _ hq)) rfl rfl (by omega) (by omega) fa3 dL_law_228 ?_
        refine lv_astore (lv' := [(14, .ref r3), (13, .ref r2), (0, .ref b9), (1, .ref (a 0)), (2, .ref q9a), (3, .int (nI kz)), (4, .int xz), (5, .int (nI aa)), (6, .int (nI ba9)), (7, .int (nI ca)), (8, .int (nI sz)), (9, .int (nI pp)), (10, .int (nI (pp + 1))), (11, .int (nI (pp + 1 + 1))), (12, .int (nI (pp + tt)))]) hx hb dL_law_229 hl (by decide) rfl (fun ls hl => ?_)
        refine law_pa hL C0 hS0 E0 hcl hsl hW hF hS (q9a := q9a) (rb := r2) (rg := r3) (kz := kz) (aa := aa) (ba9 := ba9) (ca := ca) (sz := sz) (pp := pp) (j9 := pp + tt) (xz := xz) (by omega) (p9 := P1) (by rw [show pp + tt = pp + 1 by omega]; exact h1) g1 (by rw [e10]; exact ra2) (by rw [e11]; exact ra3) (by omega) hsz (fun h9 => absurd h9 (by omega)) (lv_sub hl [2, 3, 4, 5, 6, 7, 8, 9, 10, 11, 12, 13, 14, 1, 0] rfl) (fun ls hl => ?_)
        refine lv_iinc (v := nI (pp + tt + 1)) (lv' := [(12, .int (nI (pp + tt + 1))), (0, .ref b9), (1, .ref (a 0)), (2, .ref q9a), (3, .int (nI kz)), (4, .int xz), (5, .int (nI aa)), (6, .int (nI ba9)), (7, .int (nI ca)), (8, .int (nI sz)), (9, .int (nI pp)), (10, .int (nI (pp + 1))), (11, .int (nI (pp + 1 + 1))), (13, .ref r2), (14, .ref r3)]) hx hb dL_law_503 hl (k := 12) rfl (z_inc _) (by decide) rfl (fun ls hl => ?_)
        refine lv_goto (tgt := 188) hx hb dL_law_506 (by decide) ?_
        exact ih188 (tt + 1) ls (show 3 - (tt + 1) < dd188 by omega) ⟨lv_sub hl [1, 2, 3, 4, 5, 6, 7, 8, 9, 10, 11, 12, 0] rfl, (show (tt + 1) ≤ 3 from by omega)⟩
      · skip
        have hc218 : pp + tt = pp := hc218
        refine lv_iload hx hb dL_law_221 (lv_at hl 7 rfl) ?_
        refine lv_goto (tgt := 228) hx hb dL_law_223 (by decide) ?_
        refine z_aald (k := ba9) (y := r2) (t0 := 2) hx hb hK (hW.mem (XW_y _ hq)) rfl rfl (by omega) (by omega) fa2 dL_law_228 ?_
        refine lv_astore (lv' := [(14, .ref r2), (13, .ref r2), (0, .ref b9), (1, .ref (a 0)), (2, .ref q9a), (3, .int (nI kz)), (4, .int xz), (5, .int (nI aa)), (6, .int (nI ba9)), (7, .int (nI ca)), (8, .int (nI sz)), (9, .int (nI pp)), (10, .int (nI (pp + 1))), (11, .int (nI (pp + 1 + 1))), (12, .int (nI (pp + tt)))]) hx hb dL_law_229 hl (by decide) rfl (fun ls hl => ?_)
        exact absurd hc218 (by omega)
