/-! the script, read by a method that gets it; the law's small methods -/
def zX (As : List Value) (b L : Nat) (xs : Nat → Int32) (PH : Heap → Prop) (D : va_G) (cs : Nat → ClassId) : Array Value → State → Prop := fun v U => v = As.toArray ∧ PH U.heap ∧ KK D cs U ∧ va_X b L xs U U.heap
theorem zX_blind {As : List Value} {b L : Nat} {xs : Nat → Int32} {PH : Heap → Prop} {D : va_G} {cs : Nat → ClassId} : FrameBlind (zX As b L xs PH D cs) := fun _ U g mk h => ⟨h.1, h.2.1, va_K.moved (u := U) (Vm.Alike.refl U.vm) h.2.2.1, va_X.moved (u := U) (Vm.Alike.refl U.vm) h.2.2.2⟩
theorem zX_pre {As : List Value} {b L : Nat} {xs : Nat → Int32} {PH : Heap → Prop} {D : va_G} {cs : Nat → ClassId} {s : State} {H : Heap} (h : PH H) (hK : KK D cs s) (hX : va_X b L xs s H) : ∀ U : State, U.heap = H → s.WarmedH U.vm → zX As b L xs PH D cs As.toArray U := fun U hU hW => ⟨rfl, by rw [hU]; exact h, va_K.moved hW.alike hK, by rw [hU]; exact va_X.moved hW.alike hX⟩
theorem va_X.lt {b L : Nat} {xs : Nat → Int32} {U : State} {H : Heap} (h : va_X b L xs U H) : b < H.size := by
  obtain ⟨scr, h1, -⟩ := h
  exact (Array.getElem?_eq_some_iff.mp h1).1
section ZX28
variable {p : Program} {l : Launch} {e : Env} {R : Room} {s : State} {m : MethodId} {args : Array Value} {below : List Frame} {meth : Method} {c : Code} {H : Heap} {locs : List Loc} {cells slots : Nat} {Q : State → Prop}
variable {cc bytes : ByteArray} {pc nL maxL index n : Nat} {ls : Array Slot} {rest st : List Value} {D : va_G} {cs : Nat → ClassId} {b L : Nat} {xs : Nat → Int32} {Ts ws : List Cond} {own : String} {y : MethodName} {ret : Option FieldType} {rm : Room} {PH : Heap → Prop} {As : List Value}
theorem z_cxS {post : Int32 → Prop} (S : CallFix p m c cc nL s args Ts own) (hM : Met l y ws rm (zX As b L xs PH D cs) (vp_Si post) 0 0 (fun _ => False)) (cw : CallB R s args own index y bytes maxL ret ws rm 0 0 n ∧ (Cond.static y).before args s = true) (h : PH H) (hX : va_X b L xs s H) (hK : KK D cs s)
    (hn : As.length = n) (hsize : ls.size = nL) (hst : st = As.reverse ++ rest) (hW : (rest.map fun v => v.category).sum ≤ 8) (hdg : decode cc pc = .ok (.invokestatic index, 3)) (hf : cells ≤ R.cells ∧ slots ≤ R.slots)
    (kk : ∀ r : Int32, post r → W p l e R s m args below meth c H locs cells slots Q (F0 m (pc + 3) ls (.int r :: rest))) : W p l e R s m args below meth c H locs cells slots Q (F0 m pc ls st) :=
  vp_callSi (W.runS S hM cw ⟨zX_blind, zX_pre h hK hX⟩ rfl hn hsize hst (lv_room hW) hdg hf) kk
end ZX28
theorem upd_ex {f : Nat → Int32} {k v : Nat} (hf : ∀ i, i < k → ∃ w, w < 256 ∧ f i = nI w) (hv : v < 256) : ∀ i, i < k + 1 → ∃ w, w < 256 ∧ upd f k (nI v) i = nI w := fun i hi => by
  by_cases e : i = k
  · exact ⟨v, hv, by rw [e]; exact if_pos rfl⟩
  · obtain ⟨w, h1, h2⟩ := hf i (by omega)
    exact ⟨w, h1, (show upd f k (nI v) i = f i from if_neg e).trans h2⟩
theorem row_of {f : Nat → Int32} {n : Nat} (hn : n ≤ 400) (hf : ∀ i, i < n → ∃ w, w < 256 ∧ f i = nI w) : ∃ ys : BL, ys.length = n ∧ rowOk ys ∧ ∀ i, i < n → f i = bb ys i := by
  have hl : ((List.range n).map (fun i => (f i).toNatClampNeg)).length = n := by rw [List.length_map, List.length_range]
  have hb : ∀ i, i < n → bv ((List.range n).map (fun i => (f i).toNatClampNeg)) i = (f i).toNatClampNeg := fun i hi => by
    unfold bv
    rw [List.getD_eq_getElem?_getD, List.getElem?_map, List.getElem?_range hi]
    rfl
  refine ⟨_, hl, ⟨by rw [hl]; exact hn, fun i => ?_⟩, fun i hi => ?_⟩
  · by_cases h : i < n
    · obtain ⟨w, h1, h2⟩ := hf i h
      rw [hb i h, h2, nI_clamp (by omega)]
      exact h1
    · rw [bv_out (by rw [hl]; omega)]; decide
  · obtain ⟨w, h1, h2⟩ := hf i hi
    show f i = nI (bv _ i)
    rw [hb i hi, h2, nI_clamp (by omega)]
theorem mn7 {a : Nat} (h1 : 1 ≤ a) (h2 : a < 2 ^ 31) : ∃ n, 1 ≤ n ∧ n ≤ 7 ∧ n ≤ a ∧ (if nI a < nI 7 then nI a else nI 7) = nI n := by
  by_cases q : a < 7
  · exact ⟨a, h1, by omega, Nat.le_refl a, if_pos (nI_lt q (by omega))⟩
  · exact ⟨7, by omega, Nat.le_refl 7, by omega, if_neg (fun z => q ((nI_ltI (by omega) (by omega)).mp z))⟩
theorem mnN {x y : Nat} (hx : x < 2 ^ 31) (hy : y < 2 ^ 31) : ∃ n, (n = x ∨ n = y) ∧ (if nI y < nI x then nI y else nI x) = nI n := by
  by_cases q : nI y < nI x
  · exact ⟨y, Or.inr rfl, if_pos q⟩
  · exact ⟨x, Or.inl rfl, if_neg q⟩

set_option maxHeartbeats 4000000 in
set_option maxRecDepth 100000 in
theorem c_L_below (l : Launch) (D : va_G) (cs : Nat → ClassId) (v9 : Int32) (n9 : Nat) (h0 : 0 < n9) (hn : n9 < 2 ^ 31) : Met l yL_below wsL_below ({ frames := 0, cells := 0, slots := 0, locals := 0 }) (zP [.int v9, .int (nI n9)] (fun H => True) D cs) (vp_Si (fun r => ∃ k, k < n9 ∧ r = nI k)) 0 0 (fun _ => False) := by
  refine Met.ofW (cc := cL_below) (maxL := 2) (ret := (some .int)) (by decide) rfl ?_
  intro p e s m args below meth c s₁ B hml hv
  obtain ⟨rfl, hPH, hK⟩ := hv
  have hx := B.exec
  have hb := B.bytes
  have hr := B.returns
  have hts := atoms_spec (ws := wsL_below) B.pre
  have hown : s.vm.findClass RL = some m.cls := findClass_of_methodNamed B.named
  have hlocks := B.notSynchronized
  have hPH : True := hPH
  have hl := lv_entry ([.int v9, .int (nI n9)]) (n := 2) (Nat.le_of_ble_eq_true rfl)
  rw [lg_entry_eq]
  generalize (lg_sl ([.int v9, .int (nI n9)]) ++ List.replicate (2 - (lg_sl ([.int v9, .int (nI n9)])).length) Slot.unset).toArray = ls at hl ⊢
  have hl : lv_has ls 2 [(0, .int v9), (1, .int (nI n9))] := hl
  refine lv_iload_n hx hb dL_below_0 rfl (lv_at hl 0 rfl) ?_
  refine lv_ldc (v := 2147483647) hx hb hown (hts (.constant RL 7 (2147483647)) (by decide +kernel)) dL_below_1 ?_
  refine lv_iand hx hb dL_below_3 ?_
  obtain ⟨k0, hk0, ek0⟩ := pk_andE (v9) (m := 2147483647) 31 (by decide)
  refine zti ek0 ?_
  refine lv_iload_n hx hb dL_below_4 rfl (lv_at hl 1 rfl) ?_
  refine lv_irem hx hb dL_below_5 (nI_ne0 (by omega) (by omega)) ?_
  refine zti (pk_rem (by omega) (by omega) (by omega)) (y := nI (k0 % n9)) ?_
  exact W.iret (v := nI (k0 % n9)) hx hb hr (fun t ht hW => ⟨_, rfl, ⟨k0 % n9, Nat.mod_lt _ (by omega), rfl⟩, ht⟩) (fun q hq => absurd hq List.not_mem_nil) dL_below_6

set_option maxHeartbeats 4000000 in
set_option maxRecDepth 100000 in
theorem c_L_cell (l : Launch) (D : va_G) (cs : Nat → ClassId) (b9 L : Nat) (xs : Nat → Int32) (hL : L ≤ 260) (k9 : Nat) (hk9 : k9 < 1000) : Met l yL_cell wsL_cell ({ frames := 0, cells := 0, slots := 0, locals := 0 }) (zX [.ref b9, .int (nI k9)] b9 L xs (fun H => True) D cs) (vp_Si (fun r => True)) 0 0 (fun _ => False) := by
  refine Met.ofW (cc := cL_cell) (maxL := 2) (ret := (some .int)) (by decide) rfl ?_
  intro p e s m args below meth c s₁ B hml hv
  obtain ⟨rfl, hPH, hK, hX⟩ := hv
  have hx := B.exec
  have hb := B.bytes
  have hr := B.returns
  have hts := atoms_spec (ws := wsL_cell) B.pre
  have hown : s.vm.findClass RL = some m.cls := findClass_of_methodNamed B.named
  have hlocks := B.notSynchronized
  have hPH : True := hPH
  have hl := lv_entry ([.ref b9, .int (nI k9)]) (n := 2) (Nat.le_of_ble_eq_true rfl)
  rw [lg_entry_eq]
  generalize (lg_sl ([.ref b9, .int (nI k9)]) ++ List.replicate (2 - (lg_sl ([.ref b9, .int (nI k9)])).length) Slot.unset).toArray = ls at hl ⊢
  have hl : lv_has ls 2 [(0, .ref b9), (1, .int (nI k9))] := hl
  refine lv_iload_n hx hb dL_cell_0 rfl (lv_at hl 1 rfl) ?_
  refine lv_aload_n hx hb dL_cell_1 rfl (lv_at hl 0 rfl) ?_
  refine va_slen hx hb hX hX.lt (A := fun _ => False) (fun h9 => h9) va_S.rf dL_cell_2 ?_
  refine zti (y := nI L) rfl ?_
  refine z_icmp_ge (tgt := 12) hx hb (by omega) (by omega) dL_cell_3 (by decide) (fun hc3 => ?_) (fun hc3 => ?_)
  · skip
    have hc3 : L ≤ k9 := hc3
    refine lv_ldc (v := 790386105) hx hb hown (hts (.constant RL 8 (790386105)) (by decide +kernel)) dL_cell_12 ?_
    refine lv_iload_n hx hb dL_cell_14 rfl (lv_at hl 1 rfl) ?_
    refine lv_iconst (v := nI 3) hx hb dL_cell_15 (by decide) ?_
    refine lv_iadd hx hb dL_cell_16 ?_
    refine zti (nI_add _ _) (y := nI (k9 + 3)) ?_
    refine lv_imul hx hb dL_cell_17 ?_
    exact W.iret (v := (790386105 : Int32) * (nI (k9 + 3))) hx hb hr (fun t ht hW => ⟨_, rfl, trivial, ht⟩) (fun q hq => absurd hq List.not_mem_nil) dL_cell_18
  · skip
    have hc3 : k9 < L := hc3
    refine lv_aload_n hx hb dL_cell_6 rfl (lv_at hl 0 rfl) ?_
    refine lv_iload_n hx hb dL_cell_7 rfl (lv_at hl 1 rfl) ?_
    refine va_sld hx hb hX hX.lt (A := fun _ => False) (fun h9 => h9) va_S.rf (vp_in_nI (by omega) (by omega)) dL_cell_8 ?_
    rw [nI_clamp (by omega)]
    refine lv_goto (tgt := 18) hx hb dL_cell_9 (by decide) ?_
    exact W.iret (v := xs k9) hx hb hr (fun t ht hW => ⟨_, rfl, trivial, ht⟩) (fun q hq => absurd hq List.not_mem_nil) dL_cell_18

set_option maxHeartbeats 4000000 in
set_option maxRecDepth 100000 in
theorem c_L_isLike (l : Launch) (D : va_G) (cs : Nat → ClassId) (b0 b1 n0 n1 : Nat) (f g : Nat → Int32) (i j n : Nat) (hi : i + n ≤ n0) (hj : j + n ≤ n1) (hn0 : n0 < 2 ^ 31) (hn1 : n1 < 2 ^ 31) : Met l yL_isLike wsL_isLike ({ frames := 0, cells := 0, slots := 0, locals := 0 }) (zP [.ref b0, .int (nI i), .ref b1, .int (nI j), .int (nI n)] (fun H => At D b0 (fa cs n0 f) H ∧ At D b1 (fa cs n1 g) H) D cs) (vp_Si (fun r => r = bI (stB f g i j n))) 0 0 (fun _ => False) := by
  refine Met.ofW (cc := cL_isLike) (maxL := 6) (ret := (some .boolean)) (by decide) rfl ?_
  intro p e s m args below meth c s₁ B hml hv
  obtain ⟨rfl, hPH, hK⟩ := hv
  have hx := B.exec
  have hb := B.bytes
  have hr := B.returns
  have hts := atoms_spec (ws := wsL_isLike) B.pre
  have hown : s.vm.findClass RL = some m.cls := findClass_of_methodNamed B.named
  have hlocks := B.notSynchronized
  have hPH : At D b0 (fa cs n0 f) s.heap ∧ At D b1 (fa cs n1 g) s.heap := hPH
  obtain ⟨ha0, ha1⟩ := hPH
  have hl := lv_entry ([.ref b0, .int (nI i), .ref b1, .int (nI j), .int (nI n)]) (n := 6) (Nat.le_of_ble_eq_true rfl)
  rw [lg_entry_eq]
  generalize (lg_sl ([.ref b0, .int (nI i), .ref b1, .int (nI j), .int (nI n)]) ++ List.replicate (6 - (lg_sl ([.ref b0, .int (nI i), .ref b1, .int (nI j), .int (nI n)])).length) Slot.unset).toArray = ls at hl ⊢
  have hl : lv_has ls 6 [(0, .ref b0), (1, .int (nI i)), (2, .ref b1), (3, .int (nI j)), (4, .int (nI n))] := hl
  refine lv_iconst (v := nI 0) hx hb dL_isLike_0 (by decide) ?_
  refine lv_istore (lv' := [(5, .int (nI 0)), (0, .ref b0), (1, .int (nI i)), (2, .ref b1), (3, .int (nI j)), (4, .int (nI n))]) hx hb dL_isLike_1 hl (by decide) rfl (fun ls hl => ?_)
  refine z_loop (σ := Nat) (fun q9 => n - q9) (fun q9 ls => lv_has ls 6 [(5, .int (nI q9)), (0, .ref b0), (1, .int (nI i)), (2, .ref b1), (3, .int (nI j)), (4, .int (nI n))] ∧ (q9 ≤ n) ∧ (∀ z, z < q9 → f (i + z) = g (j + z))) 0 ⟨lv_sub hl [0, 1, 2, 3, 4, 5] rfl, (show 0 ≤ n from by omega), (show ∀ z, z < 0 → f (i + z) = g (j + z) from fun z hz => absurd hz (Nat.not_lt_zero z))⟩ (fun dd3 ih3 y9 ls hd9 hI9 => ?_)
  obtain ⟨k, rfl⟩ : ∃ z, z = y9 := ⟨_, rfl⟩
  have hd3 : n - k = dd3 := hd9
  have hI9 : lv_has ls 6 [(5, .int (nI k)), (0, .ref b0), (1, .int (nI i)), (2, .ref b1), (3, .int (nI j)), (4, .int (nI n))] ∧ (k ≤ n) ∧ (∀ z, z < k → f (i + z) = g (j + z)) := hI9
  obtain ⟨hl, hk, hall⟩ := hI9
  refine lv_iload hx hb dL_isLike_3 (lv_at hl 0 rfl) ?_
  refine lv_iload hx hb dL_isLike_5 (lv_at hl 5 rfl) ?_
  refine z_icmp_ge (tgt := 33) hx hb (by omega) (by omega) dL_isLike_7 (by decide) (fun hc7 => ?_) (fun hc7 => ?_)
  · skip
    have hc7 : n ≤ k := hc7
    refine lv_iconst (v := nI 1) hx hb dL_isLike_33 (by decide) ?_
    exact W.zret (v := nI 1) hx hb hr rfl (fun t ht hW => ⟨_, rfl, (by rw [stB_t (fun z hz => hall z (by omega))]; rfl), ht⟩) (fun q hq => absurd hq List.not_mem_nil) dL_isLike_34
  · skip
    have hc7 : k < n := hc7
    refine lv_aload_n hx hb dL_isLike_10 rfl (lv_at hl 1 rfl) ?_
    refine lv_iload_n hx hb dL_isLike_11 rfl (lv_at hl 2 rfl) ?_
    refine lv_iload hx hb dL_isLike_12 (lv_at hl 0 rfl) ?_
    refine lv_iadd hx hb dL_isLike_14 ?_
    refine zti (nI_add _ _) (y := nI (i + k)) ?_
    refine z_iald (k := (i + k)) (f := f) hx hb hK ha0 (by omega) (by omega) dL_isLike_15 ?_
    refine lv_aload_n hx hb dL_isLike_16 rfl (lv_at hl 3 rfl) ?_
    refine lv_iload_n hx hb dL_isLike_17 rfl (lv_at hl 4 rfl) ?_
    refine lv_iload hx hb dL_isLike_18 (lv_at hl 0 rfl) ?_
    refine lv_iadd hx hb dL_isLike_20 ?_
    refine zti (nI_add _ _) (y := nI (j + k)) ?_
    refine z_iald (k := (j + k)) (f := g) hx hb hK ha1 (by omega) (by omega) dL_isLike_21 ?_
    refine lv_icmp_eq (tgt := 27) hx hb dL_isLike_22 (by decide) (fun hc22 => ?_) (fun hc22 => ?_)
    · skip
      have hc22 : (f (i + k)) = (g (j + k)) := hc22
      refine lv_iinc (v := nI (k + 1)) (lv' := [(5, .int (nI (k + 1))), (0, .ref b0), (1, .int (nI i)), (2, .ref b1), (3, .int (nI j)), (4, .int (nI n))]) hx hb dL_isLike_27 hl (k := 0) rfl (z_inc _) (by decide) rfl (fun ls hl => ?_)
      refine lv_goto (tgt := 3) hx hb dL_isLike_30 (by decide) ?_
      exact ih3 (k + 1) ls (show n - (k + 1) < dd3 by omega) ⟨lv_sub hl [0, 1, 2, 3, 4, 5] rfl, (show (k + 1) ≤ n from by omega), (show ∀ z, z < (k + 1) → f (i + z) = g (j + z) from fun z hz => (Nat.lt_succ_iff_lt_or_eq.mp hz).elim (hall z) (fun e9 => by rw [e9]; exact hc22))⟩
    · skip
      have hc22 : ¬ (f (i + k)) = (g (j + k)) := hc22
      refine lv_iconst (v := nI 0) hx hb dL_isLike_25 (by decide) ?_
      exact W.zret (v := nI 0) hx hb hr rfl (fun t ht hW => ⟨_, rfl, (by rw [stB_f (k := k) (by omega) hc22]; rfl), ht⟩) (fun q hq => absurd hq List.not_mem_nil) dL_isLike_26

set_option maxHeartbeats 4000000 in
set_option maxRecDepth 100000 in
theorem c_L_sum (l : Launch) (D : va_G) (cs : Nat → ClassId) (b0 n0 : Nat) (v : Nat → Nat) (hv : ∀ i, v i < 256) (p9 n : Nat) (hp : p9 + n ≤ n0) (hn : n ≤ 400) (hn0 : n0 < 2 ^ 30) : Met l yL_sum wsL_sum ({ frames := 0, cells := 0, slots := 0, locals := 0 }) (zP [.ref b0, .int (nI p9), .int (nI n)] (fun H => At D b0 (fa cs n0 (fun i => nI (v i))) H) D cs) (vp_Si (fun r => r = nI (wsum v p9 n))) 0 0 (fun _ => False) := by
  refine Met.ofW (cc := cL_sum) (maxL := 8) (ret := (some .int)) (by decide) rfl ?_
  intro p e s m args below meth c s₁ B hml hv
  obtain ⟨rfl, hPH, hK⟩ := hv
  have hx := B.exec
  have hb := B.bytes
  have hr := B.returns
  have hts := atoms_spec (ws := wsL_sum) B.pre
  have hown : s.vm.findClass RL = some m.cls := findClass_of_methodNamed B.named
  have hlocks := B.notSynchronized
  have ha0 : At D b0 (fa cs n0 (fun i => nI (v i))) s.heap := hPH
  have hl := lv_entry ([.ref b0, .int (nI p9), .int (nI n)]) (n := 8) (Nat.le_of_ble_eq_true rfl)
  rw [lg_entry_eq]
  generalize (lg_sl ([.ref b0, .int (nI p9), .int (nI n)]) ++ List.replicate (8 - (lg_sl ([.ref b0, .int (nI p9), .int (nI n)])).length) Slot.unset).toArray = ls at hl ⊢
  have hl : lv_has ls 8 [(0, .ref b0), (1, .int (nI p9)), (2, .int (nI n))] := hl
  refine lv_lconst (v := lN 0) hx hb dL_sum_0 (by decide) ?_
  refine lv_lstore_n (lv' := [(3, .long (lN 0)), (0, .ref b0), (1, .int (nI p9)), (2, .int (nI n))]) hx hb dL_sum_1 rfl hl (by decide) rfl (fun ls hl => ?_)
  refine lv_lconst (v := lN 0) hx hb dL_sum_2 (by decide) ?_
  refine lv_lstore (lv' := [(5, .long (lN 0)), (3, .long (lN 0)), (0, .ref b0), (1, .int (nI p9)), (2, .int (nI n))]) hx hb dL_sum_3 hl (by decide) rfl (fun ls hl => ?_)
  refine lv_iconst (v := nI 0) hx hb dL_sum_5 (by decide) ?_
  refine lv_istore (lv' := [(7, .int (nI 0)), (5, .long (lN 0)), (3, .long (lN 0)), (0, .ref b0), (1, .int (nI p9)), (2, .int (nI n))]) hx hb dL_sum_6 hl (by decide) rfl (fun ls hl => ?_)
  have hv0 : sA v p9 0 = 0 := rfl
  refine z_loop (σ := Nat) (fun q9 => n - q9) (fun q9 ls => lv_has ls 8 [(7, .int (nI q9)), (3, .long (lN (sA v p9 q9))), (5, .long (lN (sX v p9 n q9))), (0, .ref b0), (1, .int (nI p9)), (2, .int (nI n))] ∧ (q9 ≤ n)) 0 ⟨lv_sub hl [0, 2, 1, 3, 4, 5] rfl, (show 0 ≤ n from by omega)⟩ (fun dd8 ih8 y9 ls hd9 hI9 => ?_)
  obtain ⟨k, rfl⟩ : ∃ z, z = y9 := ⟨_, rfl⟩
  have hd8 : n - k = dd8 := hd9
  have hI9 : lv_has ls 8 [(7, .int (nI k)), (3, .long (lN (sA v p9 k))), (5, .long (lN (sX v p9 n k))), (0, .ref b0), (1, .int (nI p9)), (2, .int (nI n))] ∧ (k ≤ n) := hI9
  obtain ⟨hl, hk⟩ := hI9
  have hv9 := hv (p9 + k)
  refine lv_iload hx hb dL_sum_8 (lv_at hl 0 rfl) ?_
  refine lv_iload_n hx hb dL_sum_10 rfl (lv_at hl 5 rfl) ?_
  refine z_icmp_ge (tgt := 48) hx hb (by omega) (by omega) dL_sum_11 (by decide) (fun hc11 => ?_) (fun hc11 => ?_)
  · skip
    have hc11 : n ≤ k := hc11
    have e9 : k = n := by omega
    rw [e9] at hl
    have hA9 := sA_lt hv (p := p9) hn
    have hB9 := sX_lt hv (p := p9) hn (Nat.le_refl n)
    refine lv_lload_n hx hb dL_sum_48 rfl (lv_at hl 1 rfl) ?_
    refine lv_ldc2 (v := 256) hx hb hown (hts (.constantLong RL 43 (256)) (by decide +kernel)) dL_sum_49 ?_
    refine ztl (y := lN 256) (by decide) ?_
    refine lv_lrem hx hb dL_sum_52 (by decide) ?_
    refine ztl (y := lN ((sA v p9 n) % 256)) (pk_lRem (by omega) (by decide) (by decide)) ?_
    refine lv_ldc2 (v := 256) hx hb hown (hts (.constantLong RL 43 (256)) (by decide +kernel)) dL_sum_53 ?_
    refine ztl (y := lN 256) (by decide) ?_
    refine lv_lload hx hb dL_sum_56 (lv_at hl 2 rfl) ?_
    refine lv_ldc2 (v := 256) hx hb hown (hts (.constantLong RL 43 (256)) (by decide +kernel)) dL_sum_58 ?_
    refine ztl (y := lN 256) (by decide) ?_
    refine lv_lrem hx hb dL_sum_61 (by decide) ?_
    refine ztl (y := lN ((sX v p9 n n) % 256)) (pk_lRem (by omega) (by decide) (by decide)) ?_
    refine lv_lmul hx hb dL_sum_62 ?_
    refine ztl (y := lN (256 * ((sX v p9 n n) % 256))) (lN_mul _ _) ?_
    refine lv_ladd hx hb dL_sum_63 ?_
    refine ztl (y := lN ((sA v p9 n) % 256 + (256 * ((sX v p9 n n) % 256)))) (lN_add _ _) ?_
    refine lv_l2i (v := nI ((sA v p9 n) % 256 + (256 * ((sX v p9 n n) % 256)))) hx hb dL_sum_64 (lN_i _) ?_
    exact W.iret (v := nI ((sA v p9 n) % 256 + (256 * ((sX v p9 n n) % 256)))) hx hb hr (fun t ht hW => ⟨_, rfl, (by unfold wsum; rw [← sX_sB]), ht⟩) (fun q hq => absurd hq List.not_mem_nil) dL_sum_65
  · skip
    have hc11 : k < n := hc11
    refine lv_lload_n hx hb dL_sum_14 rfl (lv_at hl 1 rfl) ?_
    refine lv_aload_n hx hb dL_sum_15 rfl (lv_at hl 3 rfl) ?_
    refine lv_iload_n hx hb dL_sum_16 rfl (lv_at hl 4 rfl) ?_
    refine lv_iload hx hb dL_sum_17 (lv_at hl 0 rfl) ?_
    refine lv_iadd hx hb dL_sum_19 ?_
    refine zti (nI_add _ _) (y := nI (p9 + k)) ?_
    refine z_iald (k := (p9 + k)) (f := fun i => nI (v i)) hx hb hK ha0 (by omega) (by omega) dL_sum_20 ?_
    refine zti (y := nI (v (p9 + k))) rfl ?_
    refine lv_i2l (v := lN (v (p9 + k))) hx hb dL_sum_21 (nI_l (by omega)) ?_
    refine lv_ladd hx hb dL_sum_22 ?_
    refine ztl (y := lN (sA v p9 k + (v (p9 + k)))) (lN_add _ _) ?_
    refine ztl (y := lN (sA v p9 (k + 1))) rfl ?_
    refine lv_lstore_n (lv' := [(3, .long (lN (sA v p9 (k + 1)))), (7, .int (nI k)), (5, .long (lN (sX v p9 n k))), (0, .ref b0), (1, .int (nI p9)), (2, .int (nI n))]) hx hb dL_sum_23 rfl hl (by decide) rfl (fun ls hl => ?_)
    refine lv_lload hx hb dL_sum_24 (lv_at hl 2 rfl) ?_
    refine lv_iload_n hx hb dL_sum_26 rfl (lv_at hl 5 rfl) ?_
    refine lv_iload hx hb dL_sum_27 (lv_at hl 1 rfl) ?_
    refine lv_isub hx hb dL_sum_29 ?_
    refine zti (pk_sub (by omega)) (y := nI (n - k)) ?_
    refine lv_i2l (v := lN (n - k)) hx hb dL_sum_30 (nI_l (by omega)) ?_
    refine lv_aload_n hx hb dL_sum_31 rfl (lv_at hl 3 rfl) ?_
    refine lv_iload_n hx hb dL_sum_32 rfl (lv_at hl 4 rfl) ?_
    refine lv_iload hx hb dL_sum_33 (lv_at hl 1 rfl) ?_
    refine lv_iadd hx hb dL_sum_35 ?_
    refine zti (nI_add _ _) (y := nI (p9 + k)) ?_
    refine z_iald (k := (p9 + k)) (f := fun i => nI (v i)) hx hb hK ha0 (by omega) (by omega) dL_sum_36 ?_
    refine zti (y := nI (v (p9 + k))) rfl ?_
    refine lv_i2l (v := lN (v (p9 + k))) hx hb dL_sum_37 (nI_l (by omega)) ?_
    refine lv_lmul hx hb dL_sum_38 ?_
    refine ztl (y := lN ((n - k) * (v (p9 + k)))) (lN_mul _ _) ?_
    refine lv_ladd hx hb dL_sum_39 ?_
    refine ztl (y := lN (sX v p9 n k + ((n - k) * (v (p9 + k))))) (lN_add _ _) ?_
    refine ztl (y := lN (sX v p9 n (k + 1))) rfl ?_
    refine lv_lstore (lv' := [(5, .long (lN (sX v p9 n (k + 1)))), (3, .long (lN (sA v p9 (k + 1)))), (7, .int (nI k)), (0, .ref b0), (1, .int (nI p9)), (2, .int (nI n))]) hx hb dL_sum_40 hl (by decide) rfl (fun ls hl => ?_)
    refine lv_iinc (v := nI (k + 1)) (lv' := [(7, .int (nI (k + 1))), (5, .long (lN (sX v p9 n (k + 1)))), (3, .long (lN (sA v p9 (k + 1)))), (0, .ref b0), (1, .int (nI p9)), (2, .int (nI n))]) hx hb dL_sum_42 hl (k := 2) rfl (z_inc _) (by decide) rfl (fun ls hl => ?_)
    refine lv_goto (tgt := 8) hx hb dL_sum_45 (by decide) ?_
    exact ih8 (k + 1) ls (show n - (k + 1) < dd8 by omega) ⟨lv_sub hl [0, 2, 1, 3, 4, 5] rfl, (show (k + 1) ≤ n from by omega)⟩

set_option maxHeartbeats 4000000 in
set_option maxRecDepth 100000 in
theorem c_L_row (l : Launch) (D : va_G) (cs : Nat → ClassId) (S0 : Nat) (ws : va_W) (b9 L : Nat) (xs : Nat → Int32) (hb9 : b9 < S0) (hL : L ≤ 260) (k9 : Nat) (hk9 : k9 < 900) : Met l yL_row wsL_row ({ frames := 1, cells := 1, slots := 70, locals := 21 }) (zX [.ref b9, .int (nI k9), .int (nI 70)] b9 L xs (fun H => Wd D S0 ws H) D cs) (va_Qr (fun ys : BL => ys.length ≤ 70 ∧ rowOk ys) (fun ys ra t => Wd D S0 ((ra, ba cs ys) :: ws) t.heap ∧ True) (SA S0)) 1 70 (SA S0) := by
  refine Met.ofW (cc := cL_row) (maxL := 7) (ret := (some (.array .int))) (by decide) rfl ?_
  intro p e s m args below meth c s₁ B hml hv
  obtain ⟨rfl, hW, hK, hX⟩ := hv
  have hx := B.exec
  have hb := B.bytes
  have hr := B.returns
  have hts := atoms_spec (ws := wsL_row) B.pre
  have hown : s.vm.findClass RL = some m.cls := findClass_of_methodNamed B.named
  have hlocks := B.notSynchronized
  have hRc : (headSpec wsL_row ({ frames := 1, cells := 1, slots := 70, locals := 21 })).room.cells = 1 := rfl
  have hRs : (headSpec wsL_row ({ frames := 1, cells := 1, slots := 70, locals := 21 })).room.slots = 70 := rfl
  have hW : Wd D S0 ws s.heap := hW
  have hS0 : S0 ≤ s.heap.size := hW.2.2
  have hS : va_S (SA S0) s.heap s.heap [] := va_S.rf
  have hl := lv_entry ([.ref b9, .int (nI k9), .int (nI 70)]) (n := 7) (Nat.le_of_ble_eq_true rfl)
  rw [lg_entry_eq]
  generalize (lg_sl ([.ref b9, .int (nI k9), .int (nI 70)]) ++ List.replicate (7 - (lg_sl ([.ref b9, .int (nI k9), .int (nI 70)])).length) Slot.unset).toArray = ls at hl ⊢
  have hl : lv_has ls 7 [(0, .ref b9), (1, .int (nI k9)), (2, .int (nI 70))] := hl
  refine lv_aload_n hx hb dL_row_0 rfl (lv_at hl 0 rfl) ?_
  refine lv_iload_n hx hb dL_row_1 rfl (lv_at hl 1 rfl) ?_
  refine z_cxS (As := [.ref b9, .int (nI k9)]) (rest := []) ⟨hx, hb, hml, hown, hts⟩ (c_L_cell l D cs b9 L xs hL k9 (by omega)) (va_cwS 2 hts gL_row_L_cell rfl rfl rfl (by decide +kernel) ⟨Nat.le_of_ble_eq_true rfl, Nat.le_of_ble_eq_true rfl⟩) trivial (hX.kept (hS.2.1 b9 hX.lt (Nat.not_le.mpr hb9))) hK rfl hl.1 rfl (Nat.le_of_ble_eq_true rfl) dL_row_2 ⟨(by rw [hRc]; omega), (by rw [hRs]; omega)⟩ (fun c2 hq9 => ?_)
  refine lv_iload_n hx hb dL_row_5 rfl (lv_at hl 2 rfl) ?_
  refine lv_iconst (v := nI 1) hx hb dL_row_6 (by decide) ?_
  refine lv_iadd hx hb dL_row_7 ?_
  refine zti (nI_add _ _) (y := nI 71) ?_
  refine z_csS (As := [.int c2, .int (nI 71)]) (rest := []) ⟨hx, hb, hml, hown, hts⟩ (c_L_below l D cs c2 71 (by omega) (by omega)) (va_cwS 2 hts gL_row_L_below rfl rfl rfl (by decide +kernel) ⟨Nat.le_of_ble_eq_true rfl, Nat.le_of_ble_eq_true rfl⟩) trivial hK rfl hl.1 rfl (Nat.le_of_ble_eq_true rfl) dL_row_8 ⟨(by rw [hRc]; omega), (by rw [hRs]; omega)⟩ (fun r hq9 => ?_)
  obtain ⟨k8, hk8, rfl⟩ := hq9
  refine z_newa (n := k8) hx hb (hts (.arrayClass .int) (by decide +kernel)) hK hW hS hS0 (by omega) (by rw [hRc]; omega) (by rw [hRs]; omega) dL_row_11 (fun q11 H hW hS => ?_)
  have hW := Wd.mv (M := []) hW
  have hW : Wd D S0 ((q11, fa cs k8 (fun _ => 0)) :: ws) H := hW
  refine lv_astore_n (lv' := [(3, .ref q11), (0, .ref b9), (1, .int (nI k9)), (2, .int (nI 70))]) hx hb dL_row_13 rfl hl (by decide) rfl (fun ls hl => ?_)
  refine lv_aload_n hx hb dL_row_14 rfl (lv_at hl 1 rfl) ?_
  refine lv_iload_n hx hb dL_row_15 rfl (lv_at hl 2 rfl) ?_
  refine lv_iconst (v := nI 1) hx hb dL_row_16 (by decide) ?_
  refine lv_iadd hx hb dL_row_17 ?_
  refine zti (nI_add _ _) (y := nI (k9 + 1)) ?_
  refine z_cxS (As := [.ref b9, .int (nI (k9 + 1))]) (rest := []) ⟨hx, hb, hml, hown, hts⟩ (c_L_cell l D cs b9 L xs hL (k9 + 1) (by omega)) (va_cwS 2 hts gL_row_L_cell rfl rfl rfl (by decide +kernel) ⟨Nat.le_of_ble_eq_true rfl, Nat.le_of_ble_eq_true rfl⟩) trivial (hX.kept (hS.2.1 b9 hX.lt (Nat.not_le.mpr hb9))) hK rfl hl.1 rfl (Nat.le_of_ble_eq_true rfl) dL_row_18 ⟨(by rw [hRc]; omega), (by rw [hRs]; omega)⟩ (fun c18 hq9 => ?_)
  refine lv_istore (lv' := [(4, .int c18), (3, .ref q11), (0, .ref b9), (1, .int (nI k9)), (2, .int (nI 70))]) hx hb dL_row_21 hl (by decide) rfl (fun ls hl => ?_)
  refine lv_iconst (v := nI 0) hx hb dL_row_23 (by decide) ?_
  refine lv_istore (lv' := [(5, .int (nI 0)), (4, .int c18), (3, .ref q11), (0, .ref b9), (1, .int (nI k9)), (2, .int (nI 70))]) hx hb dL_row_24 hl (by decide) rfl (fun ls hl => ?_)
  refine lv_iconst (v := nI 0) hx hb dL_row_26 (by decide) ?_
  refine lv_istore (lv' := [(6, .int (nI 0)), (5, .int (nI 0)), (4, .int c18), (3, .ref q11), (0, .ref b9), (1, .int (nI k9)), (2, .int (nI 70))]) hx hb dL_row_27 hl (by decide) rfl (fun ls hl => ?_)
  refine z_loopM (σ := Nat × Nat × (Nat → Int32)) (fun q9 => k8 - q9.1) (fun q9 ls H locs => lv_has ls 7 [(6, .int (nI q9.1)), (5, .int (nI q9.2.1)), (4, .int c18), (3, .ref q11), (0, .ref b9), (1, .int (nI k9)), (2, .int (nI 70))] ∧ Wd D S0 ((q11, fa cs k8 q9.2.2) :: ws) H ∧ va_S (SA S0) s.heap H locs ∧ (q9.1 ≤ k8) ∧ (q9.2.1 ≤ 24) ∧ (∀ i, i < q9.1 → ∃ w, w < 256 ∧ q9.2.2 i = nI w)) (0, 0, (fun _ => 0)) ⟨lv_sub hl [0, 1, 2, 3, 4, 5, 6] rfl, hW, hS, (show 0 ≤ k8 from by omega), (show 0 ≤ 24 from by omega), (show ∀ i, i < 0 → ∃ w, w < 256 ∧ (fun _ => 0) i = nI w from fun i hi => absurd hi (Nat.not_lt_zero i))⟩ (fun dd29 ih29 y9 ls H locs hd9 hI9 => ?_)
  obtain ⟨k, fr, f9⟩ := y9
  have hd29 : k8 - k = dd29 := hd9
  have hI9 : lv_has ls 7 [(6, .int (nI k)), (5, .int (nI fr)), (4, .int c18), (3, .ref q11), (0, .ref b9), (1, .int (nI k9)), (2, .int (nI 70))] ∧ Wd D S0 ((q11, fa cs k8 f9) :: ws) H ∧ va_S (SA S0) s.heap H locs ∧ (k ≤ k8) ∧ (fr ≤ 24) ∧ (∀ i, i < k → ∃ w, w < 256 ∧ f9 i = nI w) := hI9
  obtain ⟨hl, hW, hS, hk, hfr, hf⟩ := hI9
  refine lv_iload hx hb dL_row_29 (lv_at hl 0 rfl) ?_
  refine lv_aload_n hx hb dL_row_31 rfl (lv_at hl 3 rfl) ?_
  refine z_alen (n := k8) hx hb hK (hW.1 0 _ rfl) dL_row_32 ?_
  refine z_icmp_ge (tgt := 123) hx hb (by omega) (by omega) dL_row_33 (by decide) (fun hc33 => ?_) (fun hc33 => ?_)
  · skip
    have hc33 : k8 ≤ k := hc33
    refine lv_aload_n hx hb dL_row_123 rfl (lv_at hl 3 rfl) ?_
    obtain ⟨ys, hy1, hy2, hy3⟩ := row_of (n := k8) (f := f9) (by omega) (fun i hi => hf i (by omega))
    subst hy1
    have hW := Wd.cong hy3 hW
    have hW : Wd D S0 ((q11, ba cs ys) :: ws) H := hW
    refine W.widen (k := 1) (n := 70) (by omega) (by omega) ?_
    exact W.aret (v := (.ref q11)) hx hb hr (by first | exact Or.inl ⟨_, rfl⟩ | exact Or.inr ⟨_, rfl⟩) (Or.inr ⟨_, rfl⟩) (fun t ht hW9 => ⟨⟨ys, _, rfl, ⟨by omega, hy2⟩, ⟨by show Wd D S0 _ _; rw [ht]; exact hW, trivial⟩⟩, hS.F ht⟩) (fun q9 h9 => hS.2.2 q9 h9) dL_row_124
  · skip
    have hc33 : k < k8 := hc33
    refine lv_iload hx hb dL_row_36 (lv_at hl 0 rfl) ?_
    refine lv_bipush (v := nI 6) hx hb dL_row_38 (by decide) ?_
    refine lv_irem hx hb dL_row_40 (nI_ne0 (by omega) (by omega)) ?_
    refine zti (pk_rem (by omega) (by omega) (by omega)) (y := nI (k % 6)) ?_
    refine z_ifn_ne (tgt := 66) hx hb (by omega) dL_row_41 (by decide) (fun hc41 => ?_) (fun hc41 => ?_)
    · skip
      have hc41 : ¬ k % 6 = 0 := hc41
      refine lv_aload_n hx hb dL_row_66 rfl (lv_at hl 3 rfl) ?_
      refine lv_iload hx hb dL_row_67 (lv_at hl 0 rfl) ?_
      refine lv_aload_n hx hb dL_row_69 rfl (lv_at hl 4 rfl) ?_
      refine lv_iload_n hx hb dL_row_70 rfl (lv_at hl 5 rfl) ?_
      refine z_cxS (As := [.ref b9, .int (nI k9)]) (rest := [.int (nI k), .ref q11]) ⟨hx, hb, hml, hown, hts⟩ (c_L_cell l D cs b9 L xs hL k9 (by omega)) (va_cwS 2 hts gL_row_L_cell rfl rfl rfl (by decide +kernel) ⟨Nat.le_of_ble_eq_true rfl, Nat.le_of_ble_eq_true rfl⟩) trivial (hX.kept (hS.2.1 b9 hX.lt (Nat.not_le.mpr hb9))) hK rfl hl.1 rfl (Nat.le_of_ble_eq_true rfl) dL_row_71 ⟨(by rw [hRc]; omega), (by rw [hRs]; omega)⟩ (fun c71 hq9 => ?_)
      refine lv_bipush (v := nI 8) hx hb dL_row_74 (by decide) ?_
      refine lv_ishr hx hb dL_row_76 ?_
      refine lv_iconst (v := nI 3) hx hb dL_row_77 (by decide) ?_
      refine z_csS (As := [.int (c71 >>> ((nI 8) &&& 31)), .int (nI 3)]) (rest := [.int (nI k), .ref q11]) ⟨hx, hb, hml, hown, hts⟩ (c_L_below l D cs (c71 >>> ((nI 8) &&& 31)) 3 (by omega) (by omega)) (va_cwS 2 hts gL_row_L_below rfl rfl rfl (by decide +kernel) ⟨Nat.le_of_ble_eq_true rfl, Nat.le_of_ble_eq_true rfl⟩) trivial hK rfl hl.1 rfl (Nat.le_of_ble_eq_true rfl) dL_row_78 ⟨(by rw [hRc]; omega), (by rw [hRs]; omega)⟩ (fun r hq9 => ?_)
      obtain ⟨k78, hk78, rfl⟩ := hq9
      refine z_ifn_ne (tgt := 102) hx hb (by omega) dL_row_81 (by decide) (fun hc81 => ?_) (fun hc81 => ?_)
      · skip
        have hc81 : ¬ k78 = 0 := hc81
        refine lv_bipush (v := nI 97) hx hb dL_row_102 (by decide) ?_
        refine lv_iload hx hb dL_row_104 (lv_at hl 1 rfl) ?_
        refine lv_iload hx hb dL_row_106 (lv_at hl 0 rfl) ?_
        refine lv_bipush (v := nI 6) hx hb dL_row_108 (by decide) ?_
        refine lv_irem hx hb dL_row_110 (nI_ne0 (by omega) (by omega)) ?_
        refine zti (pk_rem (by omega) (by omega) (by omega)) (y := nI (k % 6)) ?_
        refine lv_iadd hx hb dL_row_111 ?_
        refine zti (nI_add _ _) (y := nI (fr + (k % 6))) ?_
        refine lv_bipush (v := nI 11) hx hb dL_row_112 (by decide) ?_
        refine lv_irem hx hb dL_row_114 (nI_ne0 (by omega) (by omega)) ?_
        refine zti (pk_rem (by omega) (by omega) (by omega)) (y := nI ((fr + (k % 6)) % 11)) ?_
        refine lv_iadd hx hb dL_row_115 ?_
        refine zti (nI_add _ _) (y := nI (97 + ((fr + (k % 6)) % 11))) ?_
        refine z_iast (k := k) (x := nI (97 + ((fr + (k % 6)) % 11))) (n := k8) (f := f9) hx hb hK hW hS 0 rfl (by omega) (by omega) dL_row_116 (fun H locs hW hS => ?_)
        have hW : Wd D S0 ((q11, fa cs k8 (upd f9 k (nI (97 + ((fr + (k % 6)) % 11))))) :: ws) H := hW
        refine lv_iinc (v := nI (k + 1)) (lv' := [(6, .int (nI (k + 1))), (5, .int (nI fr)), (4, .int c18), (3, .ref q11), (0, .ref b9), (1, .int (nI k9)), (2, .int (nI 70))]) hx hb dL_row_117 hl (k := 0) rfl (z_inc _) (by decide) rfl (fun ls hl => ?_)
        refine lv_goto (tgt := 29) hx hb dL_row_120 (by decide) ?_
        exact ih29 ((k + 1), fr, (upd f9 k (nI (97 + ((fr + (k % 6)) % 11))))) ls H locs (show k8 - (k + 1) < dd29 by omega) ⟨lv_sub hl [0, 1, 2, 3, 4, 5, 6] rfl, hW, hS, (show (k + 1) ≤ k8 from by omega), (show fr ≤ 24 from by omega), (show ∀ i, i < (k + 1) → ∃ w, w < 256 ∧ (upd f9 k (nI (97 + ((fr + (k % 6)) % 11)))) i = nI w from upd_ex hf (by omega))⟩
      · skip
        have hc81 : k78 = 0 := hc81
        refine lv_iload hx hb dL_row_84 (lv_at hl 2 rfl) ?_
        refine lv_iload hx hb dL_row_86 (lv_at hl 0 rfl) ?_
        refine lv_sipush (v := nI 7717) hx hb dL_row_88 (by decide) ?_
        refine lv_imul hx hb dL_row_91 ?_
        refine zti (pk_mul _ _) (y := nI (k * 7717)) ?_
        refine lv_ixor hx hb dL_row_92 ?_
        refine lv_sipush (v := nI 256) hx hb dL_row_93 (by decide) ?_
        refine z_csS (As := [.int (c18 ^^^ (nI (k * 7717))), .int (nI 256)]) (rest := [.int (nI k), .ref q11]) ⟨hx, hb, hml, hown, hts⟩ (c_L_below l D cs (c18 ^^^ (nI (k * 7717))) 256 (by omega) (by omega)) (va_cwS 2 hts gL_row_L_below rfl rfl rfl (by decide +kernel) ⟨Nat.le_of_ble_eq_true rfl, Nat.le_of_ble_eq_true rfl⟩) trivial hK rfl hl.1 rfl (Nat.le_of_ble_eq_true rfl) dL_row_96 ⟨(by rw [hRc]; omega), (by rw [hRs]; omega)⟩ (fun r hq9 => ?_)
        obtain ⟨k96, hk96, rfl⟩ := hq9
        refine lv_goto (tgt := 116) hx hb dL_row_99 (by decide) ?_
        refine z_iast (k := k) (x := nI k96) (n := k8) (f := f9) hx hb hK hW hS 0 rfl (by omega) (by omega) dL_row_116 (fun H locs hW hS => ?_)
        have hW : Wd D S0 ((q11, fa cs k8 (upd f9 k (nI k96))) :: ws) H := hW
        refine lv_iinc (v := nI (k + 1)) (lv' := [(6, .int (nI (k + 1))), (5, .int (nI fr)), (4, .int c18), (3, .ref q11), (0, .ref b9), (1, .int (nI k9)), (2, .int (nI 70))]) hx hb dL_row_117 hl (k := 0) rfl (z_inc _) (by decide) rfl (fun ls hl => ?_)
        refine lv_goto (tgt := 29) hx hb dL_row_120 (by decide) ?_
        exact ih29 ((k + 1), fr, (upd f9 k (nI k96))) ls H locs (show k8 - (k + 1) < dd29 by omega) ⟨lv_sub hl [0, 1, 2, 3, 4, 5, 6] rfl, hW, hS, (show (k + 1) ≤ k8 from by omega), (show fr ≤ 24 from by omega), (show ∀ i, i < (k + 1) → ∃ w, w < 256 ∧ (upd f9 k (nI k96)) i = nI w from upd_ex hf (by omega))⟩
    · skip
      have hc41 : k % 6 = 0 := hc41
      refine lv_iload hx hb dL_row_44 (lv_at hl 2 rfl) ?_
      refine lv_iload hx hb dL_row_46 (lv_at hl 0 rfl) ?_
      refine lv_bipush (v := nI 6) hx hb dL_row_48 (by decide) ?_
      refine lv_idiv hx hb dL_row_50 (nI_ne0 (by omega) (by omega)) ?_
      refine zti (pk_div (by omega) (by omega) (by omega)) (y := nI (k / 6)) ?_
      refine lv_bipush (v := nI 9) hx hb dL_row_51 (by decide) ?_
      refine lv_irem hx hb dL_row_53 (nI_ne0 (by omega) (by omega)) ?_
      refine zti (pk_rem (by omega) (by omega) (by omega)) (y := nI ((k / 6) % 9)) ?_
      refine lv_iconst (v := nI 3) hx hb dL_row_54 (by decide) ?_
      refine lv_imul hx hb dL_row_55 ?_
      refine zti (pk_mul _ _) (y := nI (((k / 6) % 9) * 3)) ?_
      refine lv_ishr hx hb dL_row_56 ?_
      refine lv_iconst (v := nI 5) hx hb dL_row_57 (by decide) ?_
      refine z_csS (As := [.int (c18 >>> ((nI (((k / 6) % 9) * 3)) &&& 31)), .int (nI 5)]) (rest := []) ⟨hx, hb, hml, hown, hts⟩ (c_L_below l D cs (c18 >>> ((nI (((k / 6) % 9) * 3)) &&& 31)) 5 (by omega) (by omega)) (va_cwS 2 hts gL_row_L_below rfl rfl rfl (by decide +kernel) ⟨Nat.le_of_ble_eq_true rfl, Nat.le_of_ble_eq_true rfl⟩) trivial hK rfl hl.1 rfl (Nat.le_of_ble_eq_true rfl) dL_row_58 ⟨(by rw [hRc]; omega), (by rw [hRs]; omega)⟩ (fun r hq9 => ?_)
      obtain ⟨k58, hk58, rfl⟩ := hq9
      refine lv_bipush (v := nI 6) hx hb dL_row_61 (by decide) ?_
      refine lv_imul hx hb dL_row_63 ?_
      refine zti (pk_mul _ _) (y := nI (k58 * 6)) ?_
      refine lv_istore (lv' := [(5, .int (nI (k58 * 6))), (6, .int (nI k)), (4, .int c18), (3, .ref q11), (0, .ref b9), (1, .int (nI k9)), (2, .int (nI 70))]) hx hb dL_row_64 hl (by decide) rfl (fun ls hl => ?_)
      refine lv_aload_n hx hb dL_row_66 rfl (lv_at hl 3 rfl) ?_
      refine lv_iload hx hb dL_row_67 (lv_at hl 1 rfl) ?_
      refine lv_aload_n hx hb dL_row_69 rfl (lv_at hl 4 rfl) ?_
      refine lv_iload_n hx hb dL_row_70 rfl (lv_at hl 5 rfl) ?_
      refine z_cxS (As := [.ref b9, .int (nI k9)]) (rest := [.int (nI k), .ref q11]) ⟨hx, hb, hml, hown, hts⟩ (c_L_cell l D cs b9 L xs hL k9 (by omega)) (va_cwS 2 hts gL_row_L_cell rfl rfl rfl (by decide +kernel) ⟨Nat.le_of_ble_eq_true rfl, Nat.le_of_ble_eq_true rfl⟩) trivial (hX.kept (hS.2.1 b9 hX.lt (Nat.not_le.mpr hb9))) hK rfl hl.1 rfl (Nat.le_of_ble_eq_true rfl) dL_row_71 ⟨(by rw [hRc]; omega), (by rw [hRs]; omega)⟩ (fun c71 hq9 => ?_)
      refine lv_bipush (v := nI 8) hx hb dL_row_74 (by decide) ?_
      refine lv_ishr hx hb dL_row_76 ?_
      refine lv_iconst (v := nI 3) hx hb dL_row_77 (by decide) ?_
      refine z_csS (As := [.int (c71 >>> ((nI 8) &&& 31)), .int (nI 3)]) (rest := [.int (nI k), .ref q11]) ⟨hx, hb, hml, hown, hts⟩ (c_L_below l D cs (c71 >>> ((nI 8) &&& 31)) 3 (by omega) (by omega)) (va_cwS 2 hts gL_row_L_below rfl rfl rfl (by decide +kernel) ⟨Nat.le_of_ble_eq_true rfl, Nat.le_of_ble_eq_true rfl⟩) trivial hK rfl hl.1 rfl (Nat.le_of_ble_eq_true rfl) dL_row_78 ⟨(by rw [hRc]; omega), (by rw [hRs]; omega)⟩ (fun r hq9 => ?_)
      obtain ⟨k78, hk78, rfl⟩ := hq9
      refine z_ifn_ne (tgt := 102) hx hb (by omega) dL_row_81 (by decide) (fun hc81 => ?_) (fun hc81 => ?_)
      · skip
        have hc81 : ¬ k78 = 0 := hc81
        refine lv_bipush (v := nI 97) hx hb dL_row_102 (by decide) ?_
        refine lv_iload hx hb dL_row_104 (lv_at hl 0 rfl) ?_
        refine lv_iload hx hb dL_row_106 (lv_at hl 1 rfl) ?_
        refine lv_bipush (v := nI 6) hx hb dL_row_108 (by decide) ?_
        refine lv_irem hx hb dL_row_110 (nI_ne0 (by omega) (by omega)) ?_
        refine zti (pk_rem (by omega) (by omega) (by omega)) (y := nI (k % 6)) ?_
        refine lv_iadd hx hb dL_row_111 ?_
        refine zti (nI_add _ _) (y := nI (k58 * 6 + (k % 6))) ?_
        refine lv_bipush (v := nI 11) hx hb dL_row_112 (by decide) ?_
        refine lv_irem hx hb dL_row_114 (nI_ne0 (by omega) (by omega)) ?_
        refine zti (pk_rem (by omega) (by omega) (by omega)) (y := nI ((k58 * 6 + (k % 6)) % 11)) ?_
        refine lv_iadd hx hb dL_row_115 ?_
        refine zti (nI_add _ _) (y := nI (97 + ((k58 * 6 + (k % 6)) % 11))) ?_
        refine z_iast (k := k) (x := nI (97 + ((k58 * 6 + (k % 6)) % 11))) (n := k8) (f := f9) hx hb hK hW hS 0 rfl (by omega) (by omega) dL_row_116 (fun H locs hW hS => ?_)
        have hW : Wd D S0 ((q11, fa cs k8 (upd f9 k (nI (97 + ((k58 * 6 + (k % 6)) % 11))))) :: ws) H := hW
        refine lv_iinc (v := nI (k + 1)) (lv' := [(6, .int (nI (k + 1))), (5, .int (nI (k58 * 6))), (4, .int c18), (3, .ref q11), (0, .ref b9), (1, .int (nI k9)), (2, .int (nI 70))]) hx hb dL_row_117 hl (k := 1) rfl (z_inc _) (by decide) rfl (fun ls hl => ?_)
        refine lv_goto (tgt := 29) hx hb dL_row_120 (by decide) ?_
        exact ih29 ((k + 1), (k58 * 6), (upd f9 k (nI (97 + ((k58 * 6 + (k % 6)) % 11))))) ls H locs (show k8 - (k + 1) < dd29 by omega) ⟨lv_sub hl [0, 1, 2, 3, 4, 5, 6] rfl, hW, hS, (show (k + 1) ≤ k8 from by omega), (show (k58 * 6) ≤ 24 from by omega), (show ∀ i, i < (k + 1) → ∃ w, w < 256 ∧ (upd f9 k (nI (97 + ((k58 * 6 + (k % 6)) % 11)))) i = nI w from upd_ex hf (by omega))⟩
      · skip
        have hc81 : k78 = 0 := hc81
        refine lv_iload hx hb dL_row_84 (lv_at hl 2 rfl) ?_
        refine lv_iload hx hb dL_row_86 (lv_at hl 1 rfl) ?_
        refine lv_sipush (v := nI 7717) hx hb dL_row_88 (by decide) ?_
        refine lv_imul hx hb dL_row_91 ?_
        refine zti (pk_mul _ _) (y := nI (k * 7717)) ?_
        refine lv_ixor hx hb dL_row_92 ?_
        refine lv_sipush (v := nI 256) hx hb dL_row_93 (by decide) ?_
        refine z_csS (As := [.int (c18 ^^^ (nI (k * 7717))), .int (nI 256)]) (rest := [.int (nI k), .ref q11]) ⟨hx, hb, hml, hown, hts⟩ (c_L_below l D cs (c18 ^^^ (nI (k * 7717))) 256 (by omega) (by omega)) (va_cwS 2 hts gL_row_L_below rfl rfl rfl (by decide +kernel) ⟨Nat.le_of_ble_eq_true rfl, Nat.le_of_ble_eq_true rfl⟩) trivial hK rfl hl.1 rfl (Nat.le_of_ble_eq_true rfl) dL_row_96 ⟨(by rw [hRc]; omega), (by rw [hRs]; omega)⟩ (fun r hq9 => ?_)
        obtain ⟨k96, hk96, rfl⟩ := hq9
        refine lv_goto (tgt := 116) hx hb dL_row_99 (by decide) ?_
        refine z_iast (k := k) (x := nI k96) (n := k8) (f := f9) hx hb hK hW hS 0 rfl (by omega) (by omega) dL_row_116 (fun H locs hW hS => ?_)
        have hW : Wd D S0 ((q11, fa cs k8 (upd f9 k (nI k96))) :: ws) H := hW
        refine lv_iinc (v := nI (k + 1)) (lv' := [(6, .int (nI (k + 1))), (5, .int (nI (k58 * 6))), (4, .int c18), (3, .ref q11), (0, .ref b9), (1, .int (nI k9)), (2, .int (nI 70))]) hx hb dL_row_117 hl (k := 1) rfl (z_inc _) (by decide) rfl (fun ls hl => ?_)
        refine lv_goto (tgt := 29) hx hb dL_row_120 (by decide) ?_
        exact ih29 ((k + 1), (k58 * 6), (upd f9 k (nI k96))) ls H locs (show k8 - (k + 1) < dd29 by omega) ⟨lv_sub hl [0, 1, 2, 3, 4, 5, 6] rfl, hW, hS, (show (k + 1) ≤ k8 from by omega), (show (k58 * 6) ≤ 24 from by omega), (show ∀ i, i < (k + 1) → ∃ w, w < 256 ∧ (upd f9 k (nI k96)) i = nI w from upd_ex hf (by omega))⟩
