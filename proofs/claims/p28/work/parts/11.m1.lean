/-! what makes rows of numbers -/
theorem z_min {n n0 : Nat} (h : n ≤ n0) (hn : n0 < 2 ^ 31) : (if nI n < nI n0 then nI n else nI n0) = nI n := by
  by_cases q : n < n0
  · exact if_pos (nI_lt q hn)
  · rw [show n0 = n by omega]; exact if_neg (nI_nlt (Nat.le_refl n) (by omega))

set_option maxHeartbeats 4000000 in
set_option maxRecDepth 100000 in
theorem c_J7_copyOf_59c91 (l : Launch) (D : va_G) (cs : Nat → ClassId) (S0 : Nat) (ea mi : Nat) (sa : Nat → Nat) (ws : va_W) (b0 n0 n : Nat) (f : Nat → Int32) (hm : (b0, fa cs n0 f) ∈ ws) (hn : n ≤ n0) (hn00 : n0 ≤ 400) : Met l yJ7_copyOf_59c91 wsJ7_copyOf_59c91 ({ frames := 1, cells := 1, slots := 400, locals := 40 }) (zE [.ref b0, .int (nI n)] (fun H => Wd D S0 ws H) D cs S0 ea mi sa) (va_Qr (fun _ : Unit => True) (fun _ ra t => Wd D S0 ((ra, fa cs n f) :: ws) t.heap ∧ True) (SA S0)) 1 400 (SA S0) := by
  refine Met.ofW (cc := cJ7_copyOf_59c91) (maxL := 3) (ret := (some (.array .int))) (by decide) rfl ?_
  intro p e s m args below meth c s₁ B hml hv
  obtain ⟨rfl, hW, hK, hE⟩ := hv
  have hx := B.exec
  have hb := B.bytes
  have hr := B.returns
  have hts := atoms_spec (ws := wsJ7_copyOf_59c91) B.pre
  have hown : s.vm.findClass RJ7 = some m.cls := findClass_of_methodNamed B.named
  have hlocks := B.notSynchronized
  have hRc : (headSpec wsJ7_copyOf_59c91 ({ frames := 1, cells := 1, slots := 400, locals := 40 })).room.cells = 1 := rfl
  have hRs : (headSpec wsJ7_copyOf_59c91 ({ frames := 1, cells := 1, slots := 400, locals := 40 })).room.slots = 400 := rfl
  have hW : Wd D S0 ws s.heap := hW
  have hS0 : S0 ≤ s.heap.size := hW.2.2
  have hS : va_S (SA S0) s.heap s.heap [] := va_S.rf
  have hl := lv_entry ([.ref b0, .int (nI n)]) (n := 3) (Nat.le_of_ble_eq_true rfl)
  rw [lg_entry_eq]
  generalize (lg_sl ([.ref b0, .int (nI n)]) ++ List.replicate (3 - (lg_sl ([.ref b0, .int (nI n)])).length) Slot.unset).toArray = ls at hl ⊢
  have hl : lv_has ls 3 [(0, .ref b0), (1, .int (nI n))] := hl
  have hn0 : n0 < 2 ^ 31 := by omega
  refine lv_iload_n hx hb dJ7_copyOf_59c91_0 rfl (lv_at hl 1 rfl) ?_
  refine lv_aload_n hx hb dJ7_copyOf_59c91_1 rfl (lv_at hl 0 rfl) ?_
  refine z_alen (n := n0) hx hb hK (hW.mem hm) dJ7_copyOf_59c91_2 ?_
  refine z_icmp_ne (tgt := 14) hx hb (by omega) (by omega) dJ7_copyOf_59c91_3 (by decide) (fun hc3 => ?_) (fun hc3 => ?_)
  · skip
    have hc3 : ¬ n = n0 := hc3
    refine lv_iload_n hx hb dJ7_copyOf_59c91_14 rfl (lv_at hl 1 rfl) ?_
    refine z_newa (n := n) hx hb (hts (.arrayClass .int) (by decide +kernel)) hK hW hS hS0 (by omega) (by rw [hRc]; omega) (by rw [hRs]; omega) dJ7_copyOf_59c91_15 (fun q15 H hW hS => ?_)
    have hW := Wd.mv (M := []) hW
    have hW : Wd D S0 ((q15, fa cs n (fun _ => 0)) :: ws) H := hW
    refine lv_astore_n (lv' := [(2, .ref q15), (0, .ref b0), (1, .int (nI n))]) hx hb dJ7_copyOf_59c91_17 rfl hl (by decide) rfl (fun ls hl => ?_)
    refine lv_aload_n hx hb dJ7_copyOf_59c91_18 rfl (lv_at hl 1 rfl) ?_
    refine lv_iconst (v := nI 0) hx hb dJ7_copyOf_59c91_19 (by decide) ?_
    refine lv_aload_n hx hb dJ7_copyOf_59c91_20 rfl (lv_at hl 0 rfl) ?_
    refine lv_iconst (v := nI 0) hx hb dJ7_copyOf_59c91_21 (by decide) ?_
    refine lv_aload_n hx hb dJ7_copyOf_59c91_22 rfl (lv_at hl 1 rfl) ?_
    refine z_alen (n := n0) hx hb hK (hW.mem (List.mem_cons_of_mem _ hm)) dJ7_copyOf_59c91_23 ?_
    refine lv_iload_n hx hb dJ7_copyOf_59c91_24 rfl (lv_at hl 2 rfl) ?_
    refine va_mmin hx hb (hml.trans hl.1.symm) hown (hts (.methodLink RJ7 304 Lib.Math.min.name) (by decide +kernel)) (hts (.static Lib.Math.min.name) (by decide +kernel)) (hts (.initialized "java/lang/Math") (by decide +kernel)) (hts (.code Lib.Math.min.name Lib.Math.min.code 2 (some .int)) (by decide +kernel)) (Nat.le_of_ble_eq_true rfl) (Nat.le_of_ble_eq_true rfl) (by rw [hRc]; omega) (by rw [hRs]; omega) dJ7_copyOf_59c91_25 ?_
    refine zti (y := nI n) (z_min hn hn0) ?_
    obtain ⟨k0, hk0⟩ := List.getElem?_of_mem hm
    refine z_copyi (k := n) hx hb (hml.trans hl.1.symm) hown (hts (.methodLink RJ7 150 arraycopyName) (by decide +kernel)) (hts (.native arraycopyName) (by decide +kernel)) (hts (.static arraycopyName) (by decide +kernel)) (hts (.initialized "java/lang/System") (by decide +kernel)) hK hW hS (k0 + 1) 0 hk0 rfl hn (Nat.le_refl n) (by omega) (Nat.le_of_ble_eq_true rfl) (Nat.le_of_ble_eq_true rfl) dJ7_copyOf_59c91_28 (fun H locs hW hS => ?_)
    have hW : Wd D S0 ((q15, fa cs n (va_cpy f (fun _ => 0) 0 0 n)) :: ws) H := hW
    have hW := Wd.cong (g := f) (fun i9 hi9 => z_cpy0 f (fun _ => 0) n i9 hi9) hW
    refine lv_aload_n hx hb dJ7_copyOf_59c91_31 rfl (lv_at hl 0 rfl) ?_
    refine W.widen (k := 1) (n := 400) (by omega) (by omega) ?_
    exact W.aret (v := (.ref q15)) hx hb hr (by first | exact Or.inl ⟨_, rfl⟩ | exact Or.inr ⟨_, rfl⟩) (Or.inr ⟨_, rfl⟩) (fun t ht hW9 => ⟨⟨(), _, rfl, trivial, ⟨by show Wd D S0 _ _; rw [ht]; exact hW, trivial⟩⟩, hS.F ht⟩) (fun q9 h9 => hS.2.2 q9 h9) dJ7_copyOf_59c91_32
  · skip
    have hc3 : n = n0 := hc3
    refine lv_aload_n hx hb dJ7_copyOf_59c91_6 rfl (lv_at hl 0 rfl) ?_
    obtain ⟨k0, hk0⟩ := List.getElem?_of_mem hm
    refine z_clone (k := n0) (f := f) hx hb (hml.trans hl.1.symm) hown (hts (.methodLink RJ7 316 ⟨"[I", "clone", "()Ljava/lang/Object;"⟩) (by decide +kernel)) (hts (.sameMethod "[I" "java/lang/Object" "clone" "()Ljava/lang/Object;") (by decide +kernel)) (hts (.native ⟨"java/lang/Object", "clone", "()Ljava/lang/Object;"⟩) (by decide +kernel)) (hts (.instanceMethod ⟨"java/lang/Object", "clone", "()Ljava/lang/Object;"⟩) (by decide +kernel)) (hts (.selects "[I" ⟨"[I", "clone", "()Ljava/lang/Object;"⟩ ⟨"java/lang/Object", "clone", "()Ljava/lang/Object;"⟩) (by decide +kernel)) (hE.2.2.2.2.1 ("[I", "java/lang/Cloneable") (by decide)) hK hW hS hS0 k0 hk0 (Nat.le_of_ble_eq_true rfl) (Nat.le_of_ble_eq_true rfl) (by rw [hRc]; omega) (by rw [hRs]; omega) dJ7_copyOf_59c91_7 (fun q7 H hW hS => ?_)
    have hW : Wd D S0 ((q7, fa cs n0 f) :: ws) H := hW
    refine va_castA hx hb hown (hts (.classLink RJ7 317 "[I") (by decide +kernel)) hW.1 0 rfl (hK.2 0 _ rfl).2 dJ7_copyOf_59c91_10 ?_
    have hW : Wd D S0 ((q7, fa cs n f) :: ws) H := by rw [hc3]; exact hW
    refine W.widen (k := 1) (n := 400) (by omega) (by omega) ?_
    exact W.aret (v := (.ref q7)) hx hb hr (by first | exact Or.inl ⟨_, rfl⟩ | exact Or.inr ⟨_, rfl⟩) (Or.inr ⟨_, rfl⟩) (fun t ht hW9 => ⟨⟨(), _, rfl, trivial, ⟨by show Wd D S0 _ _; rw [ht]; exact hW, trivial⟩⟩, hS.F ht⟩) (fun q9 h9 => hS.2.2 q9 h9) dJ7_copyOf_59c91_13

set_option maxHeartbeats 4000000 in
set_option maxRecDepth 100000 in
theorem c_X1_init (l : Launch) (D : va_G) (cs : Nat → ClassId) (S0 : Nat) (ea mi : Nat) (sa : Nat → Nat) (ws : va_W) (h9 b0 n0 n : Nat) (f : Nat → Int32) (hm : (b0, fa cs n0 f) ∈ ws) (hn : n ≤ n0) (hn00 : n0 ≤ 400) : Met l yX1_init wsX1_init ({ frames := 2, cells := 1, slots := 400, locals := 62 }) (zE [.ref h9, .ref b0, .int (nI n)] (fun H => Wd D S0 ((h9, .inr (2, [.null])) :: ws) H) D cs S0 ea mi sa) (va_Qv (fun _ : Nat => True) (fun u t => Wd D S0 ((u, fa cs n f) :: (h9, .inr (2, [.ref u])) :: ws) t.heap) (SA S0)) 1 400 (SA S0) := by
  refine Met.ofW (cc := cX1_init) (maxL := 3) (ret := none) (by decide) rfl ?_
  intro p e s m args below meth c s₁ B hml hv
  obtain ⟨rfl, hW, hK, hE⟩ := hv
  have hx := B.exec
  have hb := B.bytes
  have hr := B.returns
  have hts := atoms_spec (ws := wsX1_init) B.pre
  have hown : s.vm.findClass RX1 = some m.cls := findClass_of_methodNamed B.named
  have hlocks := B.notSynchronized
  have hin9 : meth.name = "<init>" := (name_of_methodNamed B.named B.method).1
  have hRc : (headSpec wsX1_init ({ frames := 2, cells := 1, slots := 400, locals := 62 })).room.cells = 1 := rfl
  have hRs : (headSpec wsX1_init ({ frames := 2, cells := 1, slots := 400, locals := 62 })).room.slots = 400 := rfl
  have fl13 := hts (.fieldLink RX1 13 "DeltaUpdater$Row" "bytes" "[I") (by decide +kernel)
  have in2 : ∀ w ∈ u_ws RX1 TX1 1, w ∈ wsX1_init := by decide +kernel
  have hW : Wd D S0 ((h9, .inr (2, [.null])) :: ws) s.heap := hW
  have hS0 : S0 ≤ s.heap.size := hW.2.2
  have hS : va_S (SA S0) s.heap s.heap [] := va_S.rf
  have hl := lv_entry ([.ref h9, .ref b0, .int (nI n)]) (n := 3) (Nat.le_of_ble_eq_true rfl)
  rw [lg_entry_eq]
  generalize (lg_sl ([.ref h9, .ref b0, .int (nI n)]) ++ List.replicate (3 - (lg_sl ([.ref h9, .ref b0, .int (nI n)])).length) Slot.unset).toArray = ls at hl ⊢
  have hl : lv_has ls 3 [(0, .ref h9), (1, .ref b0), (2, .int (nI n))] := hl
  refine lv_aload_n hx hb dX1_init_0 rfl (lv_at hl 0 rfl) ?_
  refine W.objInit hx hb hown (hts (.methodLink RX1 1 objectInit) (by decide +kernel)) (hts (.instanceMethod objectInit) (by decide +kernel)) (hts (.code objectInit ⟨#[0xb1]⟩ 1 none) (by decide +kernel)) rfl (by rw [hml]; exact hl.1) rfl dX1_init_1 (Nat.le_of_ble_eq_true rfl) (Nat.le_of_ble_eq_true rfl) ?_
  refine W.eq (g2 := F0 m 4 ls []) rfl ?_
  refine lv_aload_n hx hb dX1_init_4 rfl (lv_at hl 0 rfl) ?_
  refine lv_aload_n hx hb dX1_init_5 rfl (lv_at hl 1 rfl) ?_
  refine lv_iload_n hx hb dX1_init_6 rfl (lv_at hl 2 rfl) ?_
  refine z_cmR (va_runS (As := [.ref b0, .int (nI n)]) (rest := [.ref h9]) ⟨hx, hb, hml, hown, hts⟩ (c_J7_copyOf_59c91 l D cs S0 ea mi sa ((h9, .inr (2, [.null])) :: ws) b0 n0 n f (List.mem_cons_of_mem _ hm) hn hn00) (va_cwS 2 hts gX1_init_J7_copyOf_59c91 rfl rfl rfl (by decide +kernel) ⟨Nat.le_of_ble_eq_true rfl, Nat.le_of_ble_eq_true rfl⟩) ⟨zE_blind, (zE_pre hW hK hE hS)⟩ rfl rfl hl.1 rfl (lv_room (Nat.le_of_ble_eq_true rfl)) dX1_init_7 ⟨(by rw [hRc]; omega), (by rw [hRs]; omega)⟩) hS (fun u9 ra H locs hu hW hpr hS => ?_)
  have hW : Wd D S0 ((ra, fa cs n f) :: (h9, .inr (2, [.null])) :: ws) H := hW
  refine z_putF (ty := (.array .int)) (ci := 2) (v := .ref ra) (C := RX1) (T := TX1) (N := 1) hx hb hts in2 tyX1 tyX1_ok nmX1 hown hK hW hS 1 rfl rfl 0 (by decide) fl13 (fun _ h9 => h9) rfl hin9 rfl (by decide +kernel) rfl rfl (Nat.le_of_ble_eq_true rfl) dX1_init_10 (fun H locs hW hS => ?_)
  have hW : Wd D S0 ((ra, fa cs n f) :: (h9, .inr (2, [.ref ra])) :: ws) H := hW
  refine W.widen (k := 1) (n := 400) (by omega) (by omega) ?_
  exact W.vret hx hb hr (fun t ht hW9 => ⟨⟨ra, rfl, trivial, (by show Wd D S0 _ _; rw [ht]; exact hW)⟩, hS.F ht⟩) (fun q9 h9 => hS.2.2 q9 h9) dX1_init_13

