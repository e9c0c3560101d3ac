/-! a list's array: made, made larger -/
theorem z_max {n : Nat} (h : 4 ≤ n) (hn : n < 2 ^ 30) : (if nI 1 < nI (n / 2) then nI (n / 2) else nI 1) = nI (n / 2) := if_pos (nI_lt (by omega) (by omega))
theorem z_min2 {n n0 : Nat} (h : n0 ≤ n) (hn : n < 2 ^ 31) : (if nI n < nI n0 then nI n else nI n0) = nI n0 := if_neg (nI_nlt h hn)
theorem z_half {n : Nat} (h : n < 2 ^ 31) : nI n >>> (nI 1 &&& 31) = nI (n / 2) := by
  have k := pk_shrN (n := n) h ((1 : Int32) &&& 31) 1 (by decide)
  rw [Nat.pow_one] at k
  exact k
theorem z_oarrn {D : va_G} {cs : Nat → ClassId} {s : State} (hK : KK D cs s) : s.vm.findClass "[Ljava/lang/Object;" = some (cs 1) := by
  obtain ⟨kA, comp, h1, h2, h3, h4⟩ := (hK.2 1 _ rfl).2
  exact h4

set_option maxHeartbeats 4000000 in
set_option maxRecDepth 100000 in
theorem c_J8_newLength_cabcc (l : Launch) (D : va_G) (cs : Nat → ClassId) (n : Nat) (hn : 4 ≤ n) (hn2 : n < 2 ^ 30) : Met l yJ8_newLength_cabcc wsJ8_newLength_cabcc ({ frames := 1, cells := 0, slots := 0, locals := 40 }) (zP [.int (nI n), .int (nI 1), .int (nI (n / 2))] (fun H => True) D cs) (vp_Si (fun r => r = nI (n + n / 2))) 0 0 (fun _ => False) := by
  refine Met.ofW (cc := cJ8_newLength_cabcc) (maxL := 4) (ret := (some .int)) (by decide) rfl ?_
  intro p e s m args below meth c s₁ B hml hv
  obtain ⟨rfl, hPH, hK⟩ := hv
  have hx := B.exec
  have hb := B.bytes
  have hr := B.returns
  have hts := atoms_spec (ws := wsJ8_newLength_cabcc) B.pre
  have hown : s.vm.findClass RJ8 = some m.cls := findClass_of_methodNamed B.named
  have hlocks := B.notSynchronized
  have hPH : True := hPH
  have hl := lv_entry ([.int (nI n), .int (nI 1), .int (nI (n / 2))]) (n := 4) (Nat.le_of_ble_eq_true rfl)
  rw [lg_entry_eq]
  generalize (lg_sl ([.int (nI n), .int (nI 1), .int (nI (n / 2))]) ++ List.replicate (4 - (lg_sl ([.int (nI n), .int (nI 1), .int (nI (n / 2))])).length) Slot.unset).toArray = ls at hl ⊢
  have hl : lv_has ls 4 [(0, .int (nI n)), (1, .int (nI 1)), (2, .int (nI (n / 2)))] := hl
  refine lv_iload_n hx hb dJ8_newLength_cabcc_0 rfl (lv_at hl 0 rfl) ?_
  refine lv_iload_n hx hb dJ8_newLength_cabcc_1 rfl (lv_at hl 1 rfl) ?_
  refine lv_iload_n hx hb dJ8_newLength_cabcc_2 rfl (lv_at hl 2 rfl) ?_
  refine va_mmax hx hb (hml.trans hl.1.symm) hown (hts (.methodLink RJ8 194 Lib.Math.max.name) (by decide +kernel)) (hts (.static Lib.Math.max.name) (by decide +kernel)) (hts (.initialized "java/lang/Math") (by decide +kernel)) (hts (.code Lib.Math.max.name Lib.Math.max.code 2 (some .int)) (by decide +kernel)) (Nat.le_of_ble_eq_true rfl) (Nat.le_of_ble_eq_true rfl) (Nat.zero_le _) (Nat.zero_le _) dJ8_newLength_cabcc_3 ?_
  refine zti (y := nI (n / 2)) (z_max hn hn2) ?_
  refine lv_iadd hx hb dJ8_newLength_cabcc_6 ?_
  refine zti (nI_add _ _) (y := nI (n + (n / 2))) ?_
  refine lv_istore_n (lv' := [(3, .int (nI (n + (n / 2)))), (0, .int (nI n)), (1, .int (nI 1)), (2, .int (nI (n / 2)))]) hx hb dJ8_newLength_cabcc_7 rfl hl (by decide) rfl (fun ls hl => ?_)
  refine lv_iconst (v := nI 0) hx hb dJ8_newLength_cabcc_8 (by decide) ?_
  refine lv_iload_n hx hb dJ8_newLength_cabcc_9 rfl (lv_at hl 0 rfl) ?_
  refine z_icmp_ge (tgt := 21) hx hb (by omega) (by omega) dJ8_newLength_cabcc_10 (by decide) (fun hc10 => ?_) (fun hc10 => ?_)
  · skip
    have hc10 : n + (n / 2) ≤ 0 := hc10
    omega
  · skip
    have hc10 : 0 < n + (n / 2) := hc10
    refine lv_iload_n hx hb dJ8_newLength_cabcc_13 rfl (lv_at hl 0 rfl) ?_
    refine lv_ldc (v := 2147483639) hx hb hown (hts (.constant RJ8 200 (2147483639)) (by decide +kernel)) dJ8_newLength_cabcc_14 ?_
    refine zti (y := nI 2147483639) (by decide) ?_
    refine z_icmp_gt (tgt := 21) hx hb (by omega) (by omega) dJ8_newLength_cabcc_16 (by decide) (fun hc16 => ?_) (fun hc16 => ?_)
    · skip
      have hc16 : 2147483639 < n + (n / 2) := hc16
      omega
    · skip
      have hc16 : n + (n / 2) ≤ 2147483639 := hc16
      refine lv_iload_n hx hb dJ8_newLength_cabcc_19 rfl (lv_at hl 0 rfl) ?_
      exact W.iret (v := nI (n + (n / 2))) hx hb hr (fun t ht hW => ⟨_, rfl, rfl, ht⟩) (fun q hq => absurd hq List.not_mem_nil) dJ8_newLength_cabcc_20

set_option maxHeartbeats 4000000 in
set_option maxRecDepth 100000 in
theorem c_J7_copyOf_6403c (l : Launch) (D : va_G) (cs : Nat → ClassId) (S0 : Nat) (ea mi : Nat) (sa : Nat → Nat) (ws : va_W) (b0 n0 n1 ci : Nat) (f : Nat → Option Nat) (hm : (b0, qa cs 1 n0 f) ∈ ws) (hn : n0 ≤ n1) (hn1 : n1 ≤ 400) (hci : ci = 1 ∨ ci = 2) (hel : ∀ i, i < n0 → ∀ y, f i = some y → ∃ vs, (y, (Sum.inr (ci, vs) : va_E)) ∈ ws) : Met l yJ7_copyOf_6403c wsJ7_copyOf_6403c ({ frames := 1, cells := 1, slots := 400, locals := 40 }) (zE [.ref b0, .int (nI n1), .ref mi] (fun H => Wd D S0 ws H) D cs S0 ea mi sa) (va_Qr (fun _ : Unit => True) (fun _ ra t => Wd D S0 ((ra, qa cs 1 n1 (va_cpy f (fun _ => none) 0 0 n0)) :: ws) t.heap ∧ True) (SA S0)) 1 400 (SA S0) := by
  refine Met.ofW (cc := cJ7_copyOf_6403c) (maxL := 4) (ret := (some (.array (.object "java/lang/Object")))) (by decide) rfl ?_
  intro p e s m args below meth c s₁ B hml hv
  obtain ⟨rfl, hW, hK, hE⟩ := hv
  have hx := B.exec
  have hb := B.bytes
  have hr := B.returns
  have hts := atoms_spec (ws := wsJ7_copyOf_6403c) B.pre
  have hown : s.vm.findClass RJ7 = some m.cls := findClass_of_methodNamed B.named
  have hlocks := B.notSynchronized
  have hRc : (headSpec wsJ7_copyOf_6403c ({ frames := 1, cells := 1, slots := 400, locals := 40 })).room.cells = 1 := rfl
  have hRs : (headSpec wsJ7_copyOf_6403c ({ frames := 1, cells := 1, slots := 400, locals := 40 })).room.slots = 400 := rfl
  have hW : Wd D S0 ws s.heap := hW
  have hS0 : S0 ≤ s.heap.size := hW.2.2
  have hS : va_S (SA S0) s.heap s.heap [] := va_S.rf
  have hl := lv_entry ([.ref b0, .int (nI n1), .ref mi]) (n := 4) (Nat.le_of_ble_eq_true rfl)
  rw [lg_entry_eq]
  generalize (lg_sl ([.ref b0, .int (nI n1), .ref mi]) ++ List.replicate (4 - (lg_sl ([.ref b0, .int (nI n1), .ref mi])).length) Slot.unset).toArray = ls at hl ⊢
  have hl : lv_has ls 4 [(0, .ref b0), (1, .int (nI n1)), (2, .ref mi)] := hl
  refine lv_aload_n hx hb dJ7_copyOf_6403c_0 rfl (lv_at hl 2 rfl) ?_
  refine va_ldcM (C := "[Ljava/lang/Object;") (mi := mi) hx hb hown (hts (.classLink RJ7 110 "[Ljava/lang/Object;") (by decide +kernel)) hE.2.2.2.2.2.2.1 dJ7_copyOf_6403c_1 ?_
  refine lv_acmp_ne (rx := some mi) (ry := some mi) (tgt := 13) hx hb dJ7_copyOf_6403c_3 (by decide) (fun h9 => absurd rfl h9) (fun _ => ?_)
  refine lv_iload_n hx hb dJ7_copyOf_6403c_6 rfl (lv_at hl 1 rfl) ?_
  refine z_newq (n := n1) hx hb hown (hts (.classLink RJ7 2 oO) (by decide +kernel)) hE.2.2.2.2 hK hW hS hS0 (by omega) (by rw [hRc]; omega) (by rw [hRs]; omega) dJ7_copyOf_6403c_7 (fun q7 H hW hS => ?_)
  have hW := Wd.mv (M := []) hW
  have hW : Wd D S0 ((q7, qa cs 1 n1 (fun _ => none)) :: ws) H := hW
  refine lv_goto (tgt := 24) hx hb dJ7_copyOf_6403c_10 (by decide) ?_
  refine lv_astore_n (lv' := [(3, .ref q7), (0, .ref b0), (1, .int (nI n1)), (2, .ref mi)]) hx hb dJ7_copyOf_6403c_24 rfl hl (by decide) rfl (fun ls hl => ?_)
  refine lv_aload_n hx hb dJ7_copyOf_6403c_25 rfl (lv_at hl 1 rfl) ?_
  refine lv_iconst (v := nI 0) hx hb dJ7_copyOf_6403c_26 (by decide) ?_
  refine lv_aload_n hx hb dJ7_copyOf_6403c_27 rfl (lv_at hl 0 rfl) ?_
  refine lv_iconst (v := nI 0) hx hb dJ7_copyOf_6403c_28 (by decide) ?_
  refine lv_aload_n hx hb dJ7_copyOf_6403c_29 rfl (lv_at hl 1 rfl) ?_
  refine z_alenq (n := n0) hx hb hK (hW.mem (List.mem_cons_of_mem _ hm)) rfl dJ7_copyOf_6403c_30 ?_
  refine lv_iload_n hx hb dJ7_copyOf_6403c_31 rfl (lv_at hl 2 rfl) ?_
  refine va_mmin hx hb (hml.trans hl.1.symm) hown (hts (.methodLink RJ7 304 Lib.Math.min.name) (by decide +kernel)) (hts (.static Lib.Math.min.name) (by decide +kernel)) (hts (.initialized "java/lang/Math") (by decide +kernel)) (hts (.code Lib.Math.min.name Lib.Math.min.code 2 (some .int)) (by decide +kernel)) (Nat.le_of_ble_eq_true rfl) (Nat.le_of_ble_eq_true rfl) (by rw [hRc]; omega) (by rw [hRs]; omega) dJ7_copyOf_6403c_32 ?_
  refine zti (y := nI n0) (z_min2 hn (by omega)) ?_
  obtain ⟨k0, hk0⟩ := List.getElem?_of_mem hm
  refine z_copyq (k := n0) (sp := 0) (dp := 0) hx hb (hml.trans hl.1.symm) hown (hts (.methodLink RJ7 150 arraycopyName) (by decide +kernel)) (hts (.native arraycopyName) (by decide +kernel)) (hts (.static arraycopyName) (by decide +kernel)) (hts (.initialized "java/lang/System") (by decide +kernel)) hE.2.2.2.2 hK hW hS (k0 + 1) 0 hci hk0 rfl (by omega) (by omega) (by omega) (by omega) (fun i hi y hy => by rw [Nat.zero_add] at hy; obtain ⟨vs, hv9⟩ := hel i hi y hy; exact ⟨vs, List.mem_cons_of_mem _ hv9⟩) (Nat.le_of_ble_eq_true rfl) (Nat.le_of_ble_eq_true rfl) dJ7_copyOf_6403c_35 (fun H locs hW hS => ?_)
  have hW : Wd D S0 ((q7, qa cs 1 n1 (va_cpy f (fun _ => none) 0 0 n0)) :: ws) H := hW
  refine lv_aload_n hx hb dJ7_copyOf_6403c_38 rfl (lv_at hl 0 rfl) ?_
  refine W.widen (k := 1) (n := 400) (by omega) (by omega) ?_
  exact W.aret (v := (.ref q7)) hx hb hr (by first | exact Or.inl ⟨_, rfl⟩ | exact Or.inr ⟨_, rfl⟩) (Or.inr ⟨_, rfl⟩) (fun t ht hW9 => ⟨⟨(), _, rfl, trivial, ⟨by show Wd D S0 _ _; rw [ht]; exact hW, trivial⟩⟩, hS.F ht⟩) (fun q9 h9 => hS.2.2 q9 h9) dJ7_copyOf_6403c_39

set_option maxHeartbeats 4000000 in
set_option maxRecDepth 100000 in
theorem c_J7_copyOf_1904c (l : Launch) (D : va_G) (cs : Nat → ClassId) (S0 : Nat) (ea mi : Nat) (sa : Nat → Nat) (ws : va_W) (b0 n0 n1 ci : Nat) (f : Nat → Option Nat) (hm : (b0, qa cs 1 n0 f) ∈ ws) (hn : n0 ≤ n1) (hn1 : n1 ≤ 400) (hci : ci = 1 ∨ ci = 2) (hel : ∀ i, i < n0 → ∀ y, f i = some y → ∃ vs, (y, (Sum.inr (ci, vs) : va_E)) ∈ ws) : Met l yJ7_copyOf_1904c wsJ7_copyOf_1904c ({ frames := 2, cells := 1, slots := 400, locals := 63 }) (zE [.ref b0, .int (nI n1)] (fun H => Wd D S0 ws H) D cs S0 ea mi sa) (va_Qr (fun _ : Unit => True) (fun _ ra t => Wd D S0 ((ra, qa cs 1 n1 (va_cpy f (fun _ => none) 0 0 n0)) :: ws) t.heap ∧ True) (SA S0)) 1 400 (SA S0) := by
  refine Met.ofW (cc := cJ7_copyOf_1904c) (maxL := 2) (ret := (some (.array (.object "java/lang/Object")))) (by decide) rfl ?_
  intro p e s m args below meth c s₁ B hml hv
  obtain ⟨rfl, hW, hK, hE⟩ := hv
  have hx := B.exec
  have hb := B.bytes
  have hr := B.returns
  have hts := atoms_spec (ws := wsJ7_copyOf_1904c) B.pre
  have hown : s.vm.findClass RJ7 = some m.cls := findClass_of_methodNamed B.named
  have hlocks := B.notSynchronized
  have hRc : (headSpec wsJ7_copyOf_1904c ({ frames := 2, cells := 1, slots := 400, locals := 63 })).room.cells = 1 := rfl
  have hRs : (headSpec wsJ7_copyOf_1904c ({ frames := 2, cells := 1, slots := 400, locals := 63 })).room.slots = 400 := rfl
  have hW : Wd D S0 ws s.heap := hW
  have hS0 : S0 ≤ s.heap.size := hW.2.2
  have hS : va_S (SA S0) s.heap s.heap [] := va_S.rf
  have hl := lv_entry ([.ref b0, .int (nI n1)]) (n := 2) (Nat.le_of_ble_eq_true rfl)
  rw [lg_entry_eq]
  generalize (lg_sl ([.ref b0, .int (nI n1)]) ++ List.replicate (2 - (lg_sl ([.ref b0, .int (nI n1)])).length) Slot.unset).toArray = ls at hl ⊢
  have hl : lv_has ls 2 [(0, .ref b0), (1, .int (nI n1))] := hl
  refine lv_aload_n hx hb dJ7_copyOf_1904c_0 rfl (lv_at hl 0 rfl) ?_
  refine lv_iload_n hx hb dJ7_copyOf_1904c_1 rfl (lv_at hl 1 rfl) ?_
  refine lv_aload_n hx hb dJ7_copyOf_1904c_2 rfl (lv_at hl 0 rfl) ?_
  refine va_getC (C := "[Ljava/lang/Object;") (mi := mi) hx hb (hml.trans hl.1.symm) hown (hts (.methodLink RJ7 86 ⟨"java/lang/Object", "getClass", "()Ljava/lang/Class;"⟩) (by decide +kernel)) (va_Dc.use hE.2.2.2.2.2.1) (hts (.selects "[Ljava/lang/Object;" ⟨"java/lang/Object", "getClass", "()Ljava/lang/Class;"⟩ ⟨"java/lang/Object", "getClass", "()Ljava/lang/Class;"⟩) (by decide +kernel)) (hts (.instanceMethod ⟨"java/lang/Object", "getClass", "()Ljava/lang/Class;"⟩) (by decide +kernel)) (hts (.native ⟨"java/lang/Object", "getClass", "()Ljava/lang/Class;"⟩) (by decide +kernel)) hE.2.2.2.2.2.2.1 (z_oarr hK (hW.mem hm)) (Nat.le_of_ble_eq_true rfl) (Nat.le_of_ble_eq_true rfl) dJ7_copyOf_1904c_3 ?_
  refine z_cmR (va_runS (As := [.ref b0, .int (nI n1), .ref mi]) (rest := []) ⟨hx, hb, hml, hown, hts⟩ (c_J7_copyOf_6403c l D cs S0 ea mi sa ws b0 n0 n1 ci f hm hn hn1 hci hel) (va_cwS 3 hts gJ7_copyOf_1904c_J7_copyOf_6403c rfl rfl rfl (by decide +kernel) ⟨Nat.le_of_ble_eq_true rfl, Nat.le_of_ble_eq_true rfl⟩) ⟨zE_blind, (zE_pre hW hK hE hS)⟩ rfl rfl hl.1 rfl (lv_room (Nat.le_of_ble_eq_true rfl)) dJ7_copyOf_1904c_6 ⟨(by rw [hRc]; omega), (by rw [hRs]; omega)⟩) hS (fun u9 ra H locs hu hW hpr hS => ?_)
  have hW : Wd D S0 ((ra, qa cs 1 n1 (va_cpy f (fun _ => none) 0 0 n0)) :: ws) H := hW
  refine W.widen (k := 1) (n := 400) (by omega) (by omega) ?_
  exact W.aret (v := (.ref ra)) hx hb hr (by first | exact Or.inl ⟨_, rfl⟩ | exact Or.inr ⟨_, rfl⟩) (Or.inr ⟨_, rfl⟩) (fun t ht hW9 => ⟨⟨(), _, rfl, trivial, ⟨by show Wd D S0 _ _; rw [ht]; exact hW, trivial⟩⟩, hS.F ht⟩) (fun q9 h9 => hS.2.2 q9 h9) dJ7_copyOf_1904c_9

set_option maxHeartbeats 4000000 in
set_option maxRecDepth 100000 in
theorem c_Jx4a65c_grow_92f84_A (l : Launch) (D : va_G) (cs : Nat → ClassId) (S0 : Nat) (ea mi : Nat) (sa : Nat → Nat) (ws : va_W) (lo ed n ci : Nat) (mc : Int32) (f : Nat → Option Nat) (hn4 : 4 ≤ n) (hn5 : n ≤ 100) (hci : ci = 1 ∨ ci = 2) (hel : ∀ i, i < n → ∀ y, f i = some y → ∃ vs, (y, (Sum.inr (ci, vs) : va_E)) ∈ ws) : Met l yJx4a65c_grow_92f84 wsJx4a65c_grow_92f84 ({ frames := 3, cells := 1, slots := 400, locals := 84 }) (zE [.ref lo, .int (nI (n + 1))] (fun H => Wd D S0 ((lo, .inr (0, [.int mc, .ref ed, .int (nI n)])) :: (ed, qa cs 1 n f) :: ws) H) D cs S0 ea mi sa) (va_Qr (fun _ : Unit => True) (fun _ ra t => Wd D S0 ((ra, qa cs 1 (n + n / 2) (va_cpy f (fun _ => none) 0 0 n)) :: (lo, .inr (0, [.int mc, .ref ra, .int (nI n)])) :: (ed, qa cs 1 n f) :: ws) t.heap ∧ True) (SA S0)) 1 400 (SA S0) := by
  refine Met.ofW (cc := cJx4a65c_grow_92f84) (maxL := 4) (ret := (some (.array (.object "java/lang/Object")))) (by decide) rfl ?_
  intro p e s m args below meth c s₁ B hml hv
  obtain ⟨rfl, hW, hK, hE⟩ := hv
  have hx := B.exec
  have hb := B.bytes
  have hr := B.returns
  have hts := atoms_spec (ws := wsJx4a65c_grow_92f84) B.pre
  have hown : s.vm.findClass RJx4a65c = some m.cls := findClass_of_methodNamed B.named
  have hlocks := B.notSynchronized
  have hRc : (headSpec wsJx4a65c_grow_92f84 ({ frames := 3, cells := 1, slots := 400, locals := 84 })).room.cells = 1 := rfl
  have hRs : (headSpec wsJx4a65c_grow_92f84 ({ frames := 3, cells := 1, slots := 400, locals := 84 })).room.slots = 400 := rfl
  have fl9 := hts (.fieldLink RJx4a65c 9 "java/util/ArrayList" "elementData" "[Ljava/lang/Object;") (by decide +kernel)
  have in0 : ∀ w ∈ u_ws RJx4a65c TJx4a65c 3, w ∈ wsJx4a65c_grow_92f84 := by decide +kernel
  have hW : Wd D S0 ((lo, .inr (0, [.int mc, .ref ed, .int (nI n)])) :: (ed, qa cs 1 n f) :: ws) s.heap := hW
  have hS0 : S0 ≤ s.heap.size := hW.2.2
  have hS : va_S (SA S0) s.heap s.heap [] := va_S.rf
  have hl := lv_entry ([.ref lo, .int (nI (n + 1))]) (n := 4) (Nat.le_of_ble_eq_true rfl)
  rw [lg_entry_eq]
  generalize (lg_sl ([.ref lo, .int (nI (n + 1))]) ++ List.replicate (4 - (lg_sl ([.ref lo, .int (nI (n + 1))])).length) Slot.unset).toArray = ls at hl ⊢
  have hl : lv_has ls 4 [(0, .ref lo), (1, .int (nI (n + 1)))] := hl
  refine lv_aload_n hx hb dJx4a65c_grow_92f84_0 rfl (lv_at hl 0 rfl) ?_
  refine z_get (ci := 0) (v := .ref ed) (C := RJx4a65c) (T := TJx4a65c) (N := 3) hx hb hts in0 hown hK (hW.1 0 _ rfl) rfl 1 (by decide) fl9 (fun _ h9 => h9) rfl dJx4a65c_grow_92f84_1 ?_
  refine z_alenq (n := n) hx hb hK (hW.1 1 _ rfl) rfl dJx4a65c_grow_92f84_4 ?_
  refine lv_istore_n (lv' := [(2, .int (nI n)), (0, .ref lo), (1, .int (nI (n + 1)))]) hx hb dJx4a65c_grow_92f84_5 rfl hl (by decide) rfl (fun ls hl => ?_)
  refine lv_iload_n hx hb dJx4a65c_grow_92f84_6 rfl (lv_at hl 0 rfl) ?_
  refine lv_if_gt (tgt := 20) hx hb dJx4a65c_grow_92f84_7 (by decide) (fun hc7 => ?_) (fun hc7 => ?_)
  · skip
    have hc7 : 0 < (nI n) := hc7
    refine lv_iload_n hx hb dJx4a65c_grow_92f84_20 rfl (lv_at hl 0 rfl) ?_
    refine lv_iload_n hx hb dJx4a65c_grow_92f84_21 rfl (lv_at hl 2 rfl) ?_
    refine lv_iload_n hx hb dJx4a65c_grow_92f84_22 rfl (lv_at hl 0 rfl) ?_
    refine lv_isub hx hb dJx4a65c_grow_92f84_23 ?_
    refine zti (pk_sub (by omega)) (y := nI ((n + 1) - n)) ?_
    refine zti (y := nI 1) (congrArg nI (by omega)) ?_
    refine lv_iload_n hx hb dJx4a65c_grow_92f84_24 rfl (lv_at hl 0 rfl) ?_
    refine lv_iconst (v := nI 1) hx hb dJx4a65c_grow_92f84_25 (by decide) ?_
    refine lv_ishr hx hb dJx4a65c_grow_92f84_26 ?_
    refine zti (y := nI (n / 2)) (z_half (by omega)) ?_
    refine z_csS (As := [.int (nI n), .int (nI 1), .int (nI (n / 2))]) (rest := []) ⟨hx, hb, hml, hown, hts⟩ (c_J8_newLength_cabcc l D cs n hn4 (by omega)) (va_cwS 3 hts gJx4a65c_grow_92f84_J8_newLength_cabcc rfl rfl rfl (by decide +kernel) ⟨Nat.le_of_ble_eq_true rfl, Nat.le_of_ble_eq_true rfl⟩) trivial hK rfl hl.1 rfl (Nat.le_of_ble_eq_true rfl) dJx4a65c_grow_92f84_27 ⟨(by rw [hRc]; omega), (by rw [hRs]; omega)⟩ (fun r hq9 => ?_)
    have hq9 : r = nI (n + n / 2) := hq9
    subst hq9
    refine lv_istore_n (lv' := [(3, .int (nI (n + n / 2))), (2, .int (nI n)), (0, .ref lo), (1, .int (nI (n + 1)))]) hx hb dJx4a65c_grow_92f84_30 rfl hl (by decide) rfl (fun ls hl => ?_)
    refine lv_aload_n hx hb dJx4a65c_grow_92f84_31 rfl (lv_at hl 2 rfl) ?_
    refine lv_aload_n hx hb dJx4a65c_grow_92f84_32 rfl (lv_at hl 2 rfl) ?_
    refine z_get (ci := 0) (v := .ref ed) (C := RJx4a65c) (T := TJx4a65c) (N := 3) hx hb hts in0 hown hK (hW.1 0 _ rfl) rfl 1 (by decide) fl9 (fun _ h9 => h9) rfl dJx4a65c_grow_92f84_33 ?_
    refine lv_iload_n hx hb dJx4a65c_grow_92f84_36 rfl (lv_at hl 0 rfl) ?_
    refine z_cmR (va_runS (As := [.ref ed, .int (nI (n + n / 2))]) (rest := [.ref lo]) ⟨hx, hb, hml, hown, hts⟩ (c_J7_copyOf_1904c l D cs S0 ea mi sa ((lo, .inr (0, [.int mc, .ref ed, .int (nI n)])) :: (ed, qa cs 1 n f) :: ws) ed n (n + n / 2) ci f (List.mem_cons_of_mem _ List.mem_cons_self) (by omega) (by omega) hci (fun i hi y hy => by obtain ⟨vs, hv9⟩ := hel i hi y hy; exact ⟨vs, List.mem_cons_of_mem _ (List.mem_cons_of_mem _ hv9)⟩)) (va_cwS 2 hts gJx4a65c_grow_92f84_J7_copyOf_1904c rfl rfl rfl (by decide +kernel) ⟨Nat.le_of_ble_eq_true rfl, Nat.le_of_ble_eq_true rfl⟩) ⟨zE_blind, (zE_pre hW hK hE hS)⟩ rfl rfl hl.1 rfl (lv_room (Nat.le_of_ble_eq_true rfl)) dJx4a65c_grow_92f84_37 ⟨(by rw [hRc]; omega), (by rw [hRs]; omega)⟩) hS (fun u9 ra H locs hu hW hpr hS => ?_)
    have hW : Wd D S0 ((ra, qa cs 1 (n + n / 2) (va_cpy f (fun _ => none) 0 0 n)) :: (lo, .inr (0, [.int mc, .ref ed, .int (nI n)])) :: (ed, qa cs 1 n f) :: ws) H := hW
    refine lv_dup_x1 hx hb dJx4a65c_grow_92f84_40 rfl rfl ?_
    refine z_put (ty := (.array (.object "java/lang/Object"))) (ci := 0) (v := .ref ra) (C := RJx4a65c) (T := TJx4a65c) (N := 3) hx hb hts in0 tyJx4a65c tyJx4a65c_ok nmJx4a65c hown hK hW hS 1 rfl rfl 1 (by decide) fl9 (fun _ h9 => h9) rfl (by decide +kernel) rfl rfl (Nat.le_of_ble_eq_true rfl) dJx4a65c_grow_92f84_41 (fun H locs hW hS => ?_)
    have hW : Wd D S0 ((ra, qa cs 1 (n + n / 2) (va_cpy f (fun _ => none) 0 0 n)) :: (lo, .inr (0, [.int mc, .ref ra, .int (nI n)])) :: (ed, qa cs 1 n f) :: ws) H := hW
    refine W.widen (k := 1) (n := 400) (by omega) (by omega) ?_
    exact W.aret (v := (.ref ra)) hx hb hr (by first | exact Or.inl ⟨_, rfl⟩ | exact Or.inr ⟨_, rfl⟩) (Or.inr ⟨_, rfl⟩) (fun t ht hW9 => ⟨⟨(), _, rfl, trivial, ⟨by show Wd D S0 _ _; rw [ht]; exact hW, trivial⟩⟩, hS.F ht⟩) (fun q9 h9 => hS.2.2 q9 h9) dJx4a65c_grow_92f84_44
  · skip
    have hc7 : ¬ 0 < (nI n) := hc7
    exact absurd (show nI 0 < nI n from nI_lt (by omega) (by omega)) hc7

set_option maxHeartbeats 4000000 in
set_option maxRecDepth 100000 in
theorem c_Jx4a65c_grow_92f84_B (l : Launch) (D : va_G) (cs : Nat → ClassId) (S0 : Nat) (ea mi : Nat) (sa : Nat → Nat) (ws : va_W) (lo : Nat) (mc : Int32) : Met l yJx4a65c_grow_92f84 wsJx4a65c_grow_92f84 ({ frames := 1, cells := 1, slots := 10, locals := 40 }) (zE [.ref lo, .int (nI 1)] (fun H => Wd D S0 ((lo, .inr (0, [.int mc, .ref ea, .int (nI 0)])) :: ws) H) D cs S0 ea mi sa) (va_Qr (fun _ : Unit => True) (fun _ ra t => Wd D S0 ((lo, .inr (0, [.int mc, .ref ra, .int (nI 0)])) :: (ra, qa cs 1 10 (fun _ => none)) :: ws) t.heap ∧ True) (SA S0)) 1 10 (SA S0) := by
  refine Met.ofW (cc := cJx4a65c_grow_92f84) (maxL := 4) (ret := (some (.array (.object "java/lang/Object")))) (by decide) rfl ?_
  intro p e s m args below meth c s₁ B hml hv
  obtain ⟨rfl, hW, hK, hE⟩ := hv
  have hx := B.exec
  have hb := B.bytes
  have hr := B.returns
  have hts := atoms_spec (ws := wsJx4a65c_grow_92f84) B.pre
  have hown : s.vm.findClass RJx4a65c = some m.cls := findClass_of_methodNamed B.named
  have hlocks := B.notSynchronized
  have hRc : (headSpec wsJx4a65c_grow_92f84 ({ frames := 1, cells := 1, slots := 10, locals := 40 })).room.cells = 1 := rfl
  have hRs : (headSpec wsJx4a65c_grow_92f84 ({ frames := 1, cells := 1, slots := 10, locals := 40 })).room.slots = 10 := rfl
  have fl9 := hts (.fieldLink RJx4a65c 9 "java/util/ArrayList" "elementData" "[Ljava/lang/Object;") (by decide +kernel)
  have in0 : ∀ w ∈ u_ws RJx4a65c TJx4a65c 3, w ∈ wsJx4a65c_grow_92f84 := by decide +kernel
  have hW : Wd D S0 ((lo, .inr (0, [.int mc, .ref ea, .int (nI 0)])) :: ws) s.heap := hW
  have hS0 : S0 ≤ s.heap.size := hW.2.2
  have hS : va_S (SA S0) s.heap s.heap [] := va_S.rf
  have hl := lv_entry ([.ref lo, .int (nI 1)]) (n := 4) (Nat.le_of_ble_eq_true rfl)
  rw [lg_entry_eq]
  generalize (lg_sl ([.ref lo, .int (nI 1)]) ++ List.replicate (4 - (lg_sl ([.ref lo, .int (nI 1)])).length) Slot.unset).toArray = ls at hl ⊢
  have hl : lv_has ls 4 [(0, .ref lo), (1, .int (nI 1))] := hl
  refine lv_aload_n hx hb dJx4a65c_grow_92f84_0 rfl (lv_at hl 0 rfl) ?_
  refine z_get (ci := 0) (v := .ref ea) (C := RJx4a65c) (T := TJx4a65c) (N := 3) hx hb hts in0 hown hK (hW.1 0 _ rfl) rfl 1 (by decide) fl9 (fun _ h9 => h9) rfl dJx4a65c_grow_92f84_1 ?_
  refine va_tlen hx hb hE.2.1 hS (v := nI 0) (by decide) dJx4a65c_grow_92f84_4 ?_
  refine lv_istore_n (lv' := [(2, .int (nI 0)), (0, .ref lo), (1, .int (nI 1))]) hx hb dJx4a65c_grow_92f84_5 rfl hl (by decide) rfl (fun ls hl => ?_)
  refine lv_iload_n hx hb dJx4a65c_grow_92f84_6 rfl (lv_at hl 0 rfl) ?_
  refine lv_if_gt (tgt := 20) hx hb dJx4a65c_grow_92f84_7 (by decide) (fun h9 => absurd h9 (by decide)) (fun _ => ?_)
  refine lv_aload_n hx hb dJx4a65c_grow_92f84_10 rfl (lv_at hl 1 rfl) ?_
  refine z_get (ci := 0) (v := .ref ea) (C := RJx4a65c) (T := TJx4a65c) (N := 3) hx hb hts in0 hown hK (hW.1 0 _ rfl) rfl 1 (by decide) fl9 (fun _ h9 => h9) rfl dJx4a65c_grow_92f84_11 ?_
  refine va_gets hx hb hE.1 hS hown (hts (.fieldLink RJx4a65c 39 "java/util/ArrayList" "DEFAULTCAPACITY_EMPTY_ELEMENTDATA" "[Ljava/lang/Object;") (by decide +kernel)) (fun _ h9 => h9) dJx4a65c_grow_92f84_14 ?_
  refine lv_acmp_eq (rx := some ea) (ry := some ea) (tgt := 45) hx hb dJx4a65c_grow_92f84_17 (by decide) (fun _ => ?_) (fun h9 => absurd rfl h9)
  refine lv_aload_n hx hb dJx4a65c_grow_92f84_45 rfl (lv_at hl 1 rfl) ?_
  refine lv_bipush (v := nI 10) hx hb dJx4a65c_grow_92f84_46 (by decide) ?_
  refine lv_iload_n hx hb dJx4a65c_grow_92f84_48 rfl (lv_at hl 2 rfl) ?_
  refine va_mmax hx hb (hml.trans hl.1.symm) hown (hts (.methodLink RJx4a65c 79 Lib.Math.max.name) (by decide +kernel)) (hts (.static Lib.Math.max.name) (by decide +kernel)) (hts (.initialized "java/lang/Math") (by decide +kernel)) (hts (.code Lib.Math.max.name Lib.Math.max.code 2 (some .int)) (by decide +kernel)) (Nat.le_of_ble_eq_true rfl) (Nat.le_of_ble_eq_true rfl) (by rw [hRc]; omega) (by rw [hRs]; omega) dJx4a65c_grow_92f84_49 ?_
  refine zti (y := nI 10) (by decide) ?_
  refine z_newq (n := 10) hx hb hown (hts (.classLink RJx4a65c 7 oO) (by decide +kernel)) hE.2.2.2.2 hK hW hS hS0 (by omega) (by rw [hRc]; omega) (by rw [hRs]; omega) dJx4a65c_grow_92f84_52 (fun q52 H hW hS => ?_)
  have hW := Wd.mv (M := [(lo, .inr (0, [.int mc, .ref ea, .int (nI 0)]))]) hW
  have hW : Wd D S0 ((lo, .inr (0, [.int mc, .ref ea, .int (nI 0)])) :: (q52, qa cs 1 10 (fun _ => none)) :: ws) H := hW
  refine lv_dup_x1 hx hb dJx4a65c_grow_92f84_55 rfl rfl ?_
  refine z_put (ty := (.array (.object "java/lang/Object"))) (ci := 0) (v := .ref q52) (C := RJx4a65c) (T := TJx4a65c) (N := 3) hx hb hts in0 tyJx4a65c tyJx4a65c_ok nmJx4a65c hown hK hW hS 0 rfl rfl 1 (by decide) fl9 (fun _ h9 => h9) rfl (by decide +kernel) rfl rfl (Nat.le_of_ble_eq_true rfl) dJx4a65c_grow_92f84_56 (fun H locs hW hS => ?_)
  have hW : Wd D S0 ((lo, .inr (0, [.int mc, .ref q52, .int (nI 0)])) :: (q52, qa cs 1 10 (fun _ => none)) :: ws) H := hW
  refine W.widen (k := 1) (n := 10) (by omega) (by omega) ?_
  exact W.aret (v := (.ref q52)) hx hb hr (by first | exact Or.inl ⟨_, rfl⟩ | exact Or.inr ⟨_, rfl⟩) (Or.inr ⟨_, rfl⟩) (fun t ht hW9 => ⟨⟨(), _, rfl, trivial, ⟨by show Wd D S0 _ _; rw [ht]; exact hW, trivial⟩⟩, hS.F ht⟩) (fun q9 h9 => hS.2.2 q9 h9) dJx4a65c_grow_92f84_59

set_option maxHeartbeats 4000000 in
set_option maxRecDepth 100000 in
theorem c_Jx4a65c_grow_d5877_A (l : Launch) (D : va_G) (cs : Nat → ClassId) (S0 : Nat) (ea mi : Nat) (sa : Nat → Nat) (ws : va_W) (lo ed n ci : Nat) (mc : Int32) (f : Nat → Option Nat) (hn4 : 4 ≤ n) (hn5 : n ≤ 100) (hci : ci = 1 ∨ ci = 2) (hel : ∀ i, i < n → ∀ y, f i = some y → ∃ vs, (y, (Sum.inr (ci, vs) : va_E)) ∈ ws) : Met l yJx4a65c_grow_d5877 wsJx4a65c_grow_d5877 ({ frames := 4, cells := 1, slots := 400, locals := 107 }) (zE [.ref lo] (fun H => Wd D S0 ((lo, .inr (0, [.int mc, .ref ed, .int (nI n)])) :: (ed, qa cs 1 n f) :: ws) H) D cs S0 ea mi sa) (va_Qr (fun _ : Unit => True) (fun _ ra t => Wd D S0 ((ra, qa cs 1 (n + n / 2) (va_cpy f (fun _ => none) 0 0 n)) :: (lo, .inr (0, [.int mc, .ref ra, .int (nI n)])) :: (ed, qa cs 1 n f) :: ws) t.heap ∧ True) (SA S0)) 1 400 (SA S0) := by
  refine Met.ofW (cc := cJx4a65c_grow_d5877) (maxL := 1) (ret := (some (.array (.object "java/lang/Object")))) (by decide) rfl ?_
  intro p e s m args below meth c s₁ B hml hv
  obtain ⟨rfl, hW, hK, hE⟩ := hv
  have hx := B.exec
  have hb := B.bytes
  have hr := B.returns
  have hts := atoms_spec (ws := wsJx4a65c_grow_d5877) B.pre
  have hown : s.vm.findClass RJx4a65c = some m.cls := findClass_of_methodNamed B.named
  have hlocks := B.notSynchronized
  have hRc : (headSpec wsJx4a65c_grow_d5877 ({ frames := 4, cells := 1, slots := 400, locals := 107 })).room.cells = 1 := rfl
  have hRs : (headSpec wsJx4a65c_grow_d5877 ({ frames := 4, cells := 1, slots := 400, locals := 107 })).room.slots = 400 := rfl
  have fl48 := hts (.fieldLink RJx4a65c 48 "java/util/ArrayList" "size" "I") (by decide +kernel)
  have in0 : ∀ w ∈ u_ws RJx4a65c TJx4a65c 3, w ∈ wsJx4a65c_grow_d5877 := by decide +kernel
  have hW : Wd D S0 ((lo, .inr (0, [.int mc, .ref ed, .int (nI n)])) :: (ed, qa cs 1 n f) :: ws) s.heap := hW
  have hS0 : S0 ≤ s.heap.size := hW.2.2
  have hS : va_S (SA S0) s.heap s.heap [] := va_S.rf
  have hl := lv_entry ([.ref lo]) (n := 1) (Nat.le_of_ble_eq_true rfl)
  rw [lg_entry_eq]
  generalize (lg_sl ([.ref lo]) ++ List.replicate (1 - (lg_sl ([.ref lo])).length) Slot.unset).toArray = ls at hl ⊢
  have hl : lv_has ls 1 [(0, .ref lo)] := hl
  refine lv_aload_n hx hb dJx4a65c_grow_d5877_0 rfl (lv_at hl 0 rfl) ?_
  refine lv_aload_n hx hb dJx4a65c_grow_d5877_1 rfl (lv_at hl 0 rfl) ?_
  refine z_get (ci := 0) (v := .int (nI n)) (C := RJx4a65c) (T := TJx4a65c) (N := 3) hx hb hts in0 hown hK (hW.1 0 _ rfl) rfl 2 (by decide) fl48 (fun _ h9 => h9) rfl dJx4a65c_grow_d5877_2 ?_
  refine lv_iconst (v := nI 1) hx hb dJx4a65c_grow_d5877_5 (by decide) ?_
  refine lv_iadd hx hb dJx4a65c_grow_d5877_6 ?_
  refine zti (nI_add _ _) (y := nI (n + 1)) ?_
  refine z_cmR (va_runV (As := [.int (nI (n + 1))]) (rest := []) ⟨hx, hb, hml, hown, hts⟩ (c_Jx4a65c_grow_92f84_A l D cs S0 ea mi sa ws lo ed n ci mc f hn4 hn5 hci hel) (cwV 1 hts gJx4a65c_grow_d5877_Jx4a65c_grow_92f84 rfl rfl rfl (by decide +kernel) ⟨Nat.le_of_ble_eq_true rfl, Nat.le_of_ble_eq_true rfl⟩) ⟨zE_blind, z_recv hK (hW.1 0 _ rfl) rfl, (zE_pre hW hK hE hS)⟩ rfl rfl hl.1 rfl (lv_room (Nat.le_of_ble_eq_true rfl)) dJx4a65c_grow_d5877_7 ⟨(by rw [hRc]; omega), (by rw [hRs]; omega)⟩) hS (fun u9 ra H locs hu hW hpr hS => ?_)
  refine W.widen (k := 1) (n := 400) (by omega) (by omega) ?_
  exact W.aret (v := (.ref ra)) hx hb hr (by first | exact Or.inl ⟨_, rfl⟩ | exact Or.inr ⟨_, rfl⟩) (Or.inr ⟨_, rfl⟩) (fun t ht hW9 => ⟨⟨(), _, rfl, trivial, ⟨by show Wd D S0 _ _; rw [ht]; exact hW, trivial⟩⟩, hS.F ht⟩) (fun q9 h9 => hS.2.2 q9 h9) dJx4a65c_grow_d5877_10

set_option maxHeartbeats 4000000 in
set_option maxRecDepth 100000 in
theorem c_Jx4a65c_grow_d5877_B (l : Launch) (D : va_G) (cs : Nat → ClassId) (S0 : Nat) (ea mi : Nat) (sa : Nat → Nat) (ws : va_W) (lo : Nat) (mc : Int32) : Met l yJx4a65c_grow_d5877 wsJx4a65c_grow_d5877 ({ frames := 2, cells := 1, slots := 10, locals := 63 }) (zE [.ref lo] (fun H => Wd D S0 ((lo, .inr (0, [.int mc, .ref ea, .int (nI 0)])) :: ws) H) D cs S0 ea mi sa) (va_Qr (fun _ : Unit => True) (fun _ ra t => Wd D S0 ((lo, .inr (0, [.int mc, .ref ra, .int (nI 0)])) :: (ra, qa cs 1 10 (fun _ => none)) :: ws) t.heap ∧ True) (SA S0)) 1 10 (SA S0) := by
  refine Met.ofW (cc := cJx4a65c_grow_d5877) (maxL := 1) (ret := (some (.array (.object "java/lang/Object")))) (by decide) rfl ?_
  intro p e s m args below meth c s₁ B hml hv
  obtain ⟨rfl, hW, hK, hE⟩ := hv
  have hx := B.exec
  have hb := B.bytes
  have hr := B.returns
  have hts := atoms_spec (ws := wsJx4a65c_grow_d5877) B.pre
  have hown : s.vm.findClass RJx4a65c = some m.cls := findClass_of_methodNamed B.named
  have hlocks := B.notSynchronized
  have hRc : (headSpec wsJx4a65c_grow_d5877 ({ frames := 2, cells := 1, slots := 10, locals := 63 })).room.cells = 1 := rfl
  have hRs : (headSpec wsJx4a65c_grow_d5877 ({ frames := 2, cells := 1, slots := 10, locals := 63 })).room.slots = 10 := rfl
  have fl48 := hts (.fieldLink RJx4a65c 48 "java/util/ArrayList" "size" "I") (by decide +kernel)
  have in0 : ∀ w ∈ u_ws RJx4a65c TJx4a65c 3, w ∈ wsJx4a65c_grow_d5877 := by decide +kernel
  have hW : Wd D S0 ((lo, .inr (0, [.int mc, .ref ea, .int (nI 0)])) :: ws) s.heap := hW
  have hS0 : S0 ≤ s.heap.size := hW.2.2
  have hS : va_S (SA S0) s.heap s.heap [] := va_S.rf
  have hl := lv_entry ([.ref lo]) (n := 1) (Nat.le_of_ble_eq_true rfl)
  rw [lg_entry_eq]
  generalize (lg_sl ([.ref lo]) ++ List.replicate (1 - (lg_sl ([.ref lo])).length) Slot.unset).toArray = ls at hl ⊢
  have hl : lv_has ls 1 [(0, .ref lo)] := hl
  refine lv_aload_n hx hb dJx4a65c_grow_d5877_0 rfl (lv_at hl 0 rfl) ?_
  refine lv_aload_n hx hb dJx4a65c_grow_d5877_1 rfl (lv_at hl 0 rfl) ?_
  refine z_get (ci := 0) (v := .int (nI 0)) (C := RJx4a65c) (T := TJx4a65c) (N := 3) hx hb hts in0 hown hK (hW.1 0 _ rfl) rfl 2 (by decide) fl48 (fun _ h9 => h9) rfl dJx4a65c_grow_d5877_2 ?_
  refine lv_iconst (v := nI 1) hx hb dJx4a65c_grow_d5877_5 (by decide) ?_
  refine lv_iadd hx hb dJx4a65c_grow_d5877_6 ?_
  refine zti (nI_add _ _) (y := nI 1) ?_
  refine z_cmR (va_runV (As := [.int (nI 1)]) (rest := []) ⟨hx, hb, hml, hown, hts⟩ (c_Jx4a65c_grow_92f84_B l D cs S0 ea mi sa ws lo mc) (cwV 1 hts gJx4a65c_grow_d5877_Jx4a65c_grow_92f84 rfl rfl rfl (by decide +kernel) ⟨Nat.le_of_ble_eq_true rfl, Nat.le_of_ble_eq_true rfl⟩) ⟨zE_blind, z_recv hK (hW.1 0 _ rfl) rfl, (zE_pre hW hK hE hS)⟩ rfl rfl hl.1 rfl (lv_room (Nat.le_of_ble_eq_true rfl)) dJx4a65c_grow_d5877_7 ⟨(by rw [hRc]; omega), (by rw [hRs]; omega)⟩) hS (fun u9 ra H locs hu hW hpr hS => ?_)
  refine W.widen (k := 1) (n := 10) (by omega) (by omega) ?_
  exact W.aret (v := (.ref ra)) hx hb hr (by first | exact Or.inl ⟨_, rfl⟩ | exact Or.inr ⟨_, rfl⟩) (Or.inr ⟨_, rfl⟩) (fun t ht hW9 => ⟨⟨(), _, rfl, trivial, ⟨by show Wd D S0 _ _; rw [ht]; exact hW, trivial⟩⟩, hS.F ht⟩) (fun q9 h9 => hS.2.2 q9 h9) dJx4a65c_grow_d5877_10

