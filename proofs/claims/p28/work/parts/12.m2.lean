/-! the starts, and a new patch -/
set_option maxHeartbeats 4000000 in
set_option maxRecDepth 100000 in
theorem c_X0_startsIn (l : Launch) (D : va_G) (cs : Nat → ClassId) (S0 : Nat) (ea mi : Nat) (sa : Nat → Nat) (ws : va_W) (b0 n : Nat) (o : Nat → Int32) (hm : (b0, fa cs n o) ∈ ws) (hn : n ≤ 400) : Met l yX0_startsIn wsX0_startsIn ({ frames := 2, cells := 2, slots := 800, locals := 62 }) (zE [.ref b0] (fun H => Wd D S0 ws H) D cs S0 ea mi sa) (va_Qr (fun _ : Nat × (Nat → Int32) => True) (fun u ra t => Wd D S0 ((ra, fa cs (manyN o n) (fun i => nI (posN o n i))) :: (u.1, fa cs n u.2) :: ws) t.heap ∧ True) (SA S0)) 2 800 (SA S0) := by
  refine Met.ofW (cc := cX0_startsIn) (maxL := 4) (ret := (some (.array .int))) (by decide) rfl ?_
  intro p e s m args below meth c s₁ B hml hv
  obtain ⟨rfl, hW, hK, hE⟩ := hv
  have hx := B.exec
  have hb := B.bytes
  have hr := B.returns
  have hts := atoms_spec (ws := wsX0_startsIn) B.pre
  have hown : s.vm.findClass RX0 = some m.cls := findClass_of_methodNamed B.named
  have hlocks := B.notSynchronized
  have hRc : (headSpec wsX0_startsIn ({ frames := 2, cells := 2, slots := 800, locals := 62 })).room.cells = 2 := rfl
  have hRs : (headSpec wsX0_startsIn ({ frames := 2, cells := 2, slots := 800, locals := 62 })).room.slots = 800 := rfl
  have hW : Wd D S0 ws s.heap := hW
  have hS0 : S0 ≤ s.heap.size := hW.2.2
  have hS : va_S (SA S0) s.heap s.heap [] := va_S.rf
  have hl := lv_entry ([.ref b0]) (n := 4) (Nat.le_of_ble_eq_true rfl)
  rw [lg_entry_eq]
  generalize (lg_sl ([.ref b0]) ++ List.replicate (4 - (lg_sl ([.ref b0])).length) Slot.unset).toArray = ls at hl ⊢
  have hl : lv_has ls 4 [(0, .ref b0)] := hl
  refine lv_aload_n hx hb dX0_startsIn_0 rfl (lv_at hl 0 rfl) ?_
  refine z_alen (n := n) hx hb hK (hW.mem hm) dX0_startsIn_1 ?_
  refine z_newa (n := n) hx hb (hts (.arrayClass .int) (by decide +kernel)) hK hW hS hS0 (by omega) (by rw [hRc]; omega) (by rw [hRs]; omega) dX0_startsIn_2 (fun q2 H hW hS => ?_)
  have hW := Wd.mv (M := []) hW
  have hW : Wd D S0 ((q2, fa cs n (fun _ => 0)) :: ws) H := hW
  refine lv_astore_n (lv' := [(1, .ref q2), (0, .ref b0)]) hx hb dX0_startsIn_4 rfl hl (by decide) rfl (fun ls hl => ?_)
  refine lv_iconst (v := nI 0) hx hb dX0_startsIn_5 (by decide) ?_
  refine lv_istore_n (lv' := [(2, .int (nI 0)), (1, .ref q2), (0, .ref b0)]) hx hb dX0_startsIn_6 rfl hl (by decide) rfl (fun ls hl => ?_)
  refine lv_iconst (v := nI 0) hx hb dX0_startsIn_7 (by decide) ?_
  refine lv_istore_n (lv' := [(3, .int (nI 0)), (2, .int (nI 0)), (1, .ref q2), (0, .ref b0)]) hx hb dX0_startsIn_8 rfl hl (by decide) rfl (fun ls hl => ?_)
  refine z_loopM (σ := Nat × (Nat → Int32)) (fun q9 => n - q9.1) (fun q9 ls H locs => lv_has ls 4 [(3, .int (nI q9.1)), (2, .int (nI (ct (stA o) q9.1))), (0, .ref b0), (1, .ref q2)] ∧ Wd D S0 ((q2, fa cs n q9.2) :: ws) H ∧ va_S (SA S0) s.heap H locs ∧ (q9.1 ≤ n) ∧ (∀ j, j < ct (stA o) q9.1 → q9.2 j = nI (posN o n j))) (0, (fun _ => 0)) ⟨lv_sub hl [0, 1, 3, 2] rfl, hW, hS, (show 0 ≤ n from by omega), (show ∀ j, j < ct (stA o) 0 → (fun _ => 0) j = nI (posN o n j) from fun j hj => absurd hj (Nat.not_lt_zero j))⟩ (fun dd9 ih9 y9 ls H locs hd9 hI9 => ?_)
  obtain ⟨k, g⟩ := y9
  have hd9 : n - k = dd9 := hd9
  have hI9 : lv_has ls 4 [(3, .int (nI k)), (2, .int (nI (ct (stA o) k))), (0, .ref b0), (1, .ref q2)] ∧ Wd D S0 ((q2, fa cs n g) :: ws) H ∧ va_S (SA S0) s.heap H locs ∧ (k ≤ n) ∧ (∀ j, j < ct (stA o) k → g j = nI (posN o n j)) := hI9
  obtain ⟨hl, hW, hS, hk, hg⟩ := hI9
  have hc9 := ct_le (stA o) k
  refine lv_iload_n hx hb dX0_startsIn_9 rfl (lv_at hl 0 rfl) ?_
  refine lv_aload_n hx hb dX0_startsIn_10 rfl (lv_at hl 2 rfl) ?_
  refine z_alen (n := n) hx hb hK (hW.mem (List.mem_cons_of_mem _ hm)) dX0_startsIn_11 ?_
  refine z_icmp_ge (tgt := 36) hx hb (by omega) (by omega) dX0_startsIn_12 (by decide) (fun hc12 => ?_) (fun hc12 => ?_)
  · skip
    have hc12 : n ≤ k := hc12
    have e9 : k = n := by omega
    rw [e9] at hl hg
    have hc9 := ct_le (stA o) n
    refine lv_aload_n hx hb dX0_startsIn_36 rfl (lv_at hl 3 rfl) ?_
    refine lv_iload_n hx hb dX0_startsIn_37 rfl (lv_at hl 1 rfl) ?_
    refine z_cmR (va_runS (As := [.ref q2, .int (nI (ct (stA o) n))]) (rest := []) ⟨hx, hb, hml, hown, hts⟩ (c_J7_copyOf_59c91 l D cs S0 ea mi sa ((q2, fa cs n g) :: ws) q2 n (ct (stA o) n) g List.mem_cons_self hc9 hn) (va_cwS 2 hts gX0_startsIn_J7_copyOf_59c91 rfl rfl rfl (by decide +kernel) ⟨Nat.le_of_ble_eq_true rfl, Nat.le_of_ble_eq_true rfl⟩) ⟨zE_blind, (zE_pre hW hK hE hS)⟩ rfl rfl hl.1 rfl (lv_room (Nat.le_of_ble_eq_true rfl)) dX0_startsIn_38 ⟨(by rw [hRc]; omega), (by rw [hRs]; omega)⟩) hS (fun u9 ra H locs hu hW hpr hS => ?_)
    have hW := Wd.cong (g := fun i9 => nI (posN o n i9)) hg hW
    have hW : Wd D S0 ((ra, fa cs (ct (stA o) n) (fun i => nI ((posN o n) i))) :: (q2, fa cs n g) :: ws) H := hW
    refine W.widen (k := 2) (n := 800) (by omega) (by omega) ?_
    exact W.aret (v := (.ref ra)) hx hb hr (by first | exact Or.inl ⟨_, rfl⟩ | exact Or.inr ⟨_, rfl⟩) (Or.inr ⟨_, rfl⟩) (fun t ht hW9 => ⟨⟨(q2, g), _, rfl, trivial, ⟨by show Wd D S0 _ _; rw [ht]; exact hW, trivial⟩⟩, hS.F ht⟩) (fun q9 h9 => hS.2.2 q9 h9) dX0_startsIn_41
  · skip
    have hc12 : k < n := hc12
    refine lv_aload_n hx hb dX0_startsIn_15 rfl (lv_at hl 2 rfl) ?_
    refine lv_iload_n hx hb dX0_startsIn_16 rfl (lv_at hl 0 rfl) ?_
    refine z_csS (As := [.ref b0, .int (nI k)]) (rest := []) ⟨hx, hb, hml, hown, hts⟩ (c_X0_startsAt l D cs b0 n o k (by omega) (by omega)) (va_cwS 2 hts gX0_startsIn_X0_startsAt rfl rfl rfl (by decide +kernel) ⟨Nat.le_of_ble_eq_true rfl, Nat.le_of_ble_eq_true rfl⟩) (hW.mem (List.mem_cons_of_mem _ hm)) hK rfl hl.1 rfl (Nat.le_of_ble_eq_true rfl) dX0_startsIn_17 ⟨(by rw [hRc]; omega), (by rw [hRs]; omega)⟩ (fun r hq9 => ?_)
    have hq9 : r = bI (stA o k) := hq9
    subst hq9
    refine z_ifb_eq (tgt := 30) hx hb dX0_startsIn_20 (by decide) (fun hc20 => ?_) (fun hc20 => ?_)
    · skip
      have hc20 : (stA o k) = false := hc20
      rw [← ct_f hc20] at hl
      have hl : lv_has ls 4 [(3, .int (nI k)), (2, .int (nI (ct (stA o) (k + 1)))), (0, .ref b0), (1, .ref q2)] := hl
      refine lv_iinc (v := nI (k + 1)) (lv' := [(3, .int (nI (k + 1))), (2, .int (nI (ct (stA o) (k + 1)))), (0, .ref b0), (1, .ref q2)]) hx hb dX0_startsIn_30 hl (k := 0) rfl (z_inc _) (by decide) rfl (fun ls hl => ?_)
      refine lv_goto (tgt := 9) hx hb dX0_startsIn_33 (by decide) ?_
      exact ih9 ((k + 1), g) ls H locs (show n - (k + 1) < dd9 by omega) ⟨lv_sub hl [0, 1, 2, 3] rfl, hW, hS, (show (k + 1) ≤ n from by omega), (show ∀ j, j < ct (stA o) (k + 1) → g j = nI (posN o n j) from fun j hj => hg j (by rw [← ct_f hc20]; exact hj))⟩
    · skip
      have hc20 : (stA o k) = true := hc20
      refine lv_aload_n hx hb dX0_startsIn_23 rfl (lv_at hl 3 rfl) ?_
      refine lv_iload_n hx hb dX0_startsIn_24 rfl (lv_at hl 1 rfl) ?_
      refine lv_iload_n hx hb dX0_startsIn_25 rfl (lv_at hl 0 rfl) ?_
      refine z_iast (k := (ct (stA o) k)) (x := nI k) (n := n) (f := g) hx hb hK hW hS 0 rfl (by omega) (by omega) dX0_startsIn_26 (fun H locs hW hS => ?_)
      have hW : Wd D S0 ((q2, fa cs n (upd g (ct (stA o) k) (nI k))) :: ws) H := hW
      refine lv_iinc (v := nI (ct (stA o) k + 1)) (lv' := [(2, .int (nI (ct (stA o) k + 1))), (3, .int (nI k)), (0, .ref b0), (1, .ref q2)]) hx hb dX0_startsIn_27 hl (k := 1) rfl (z_inc _) (by decide) rfl (fun ls hl => ?_)
      rw [← ct_t hc20] at hl
      have hl : lv_has ls 4 [(2, .int (nI (ct (stA o) (k + 1)))), (3, .int (nI k)), (0, .ref b0), (1, .ref q2)] := hl
      refine lv_iinc (v := nI (k + 1)) (lv' := [(3, .int (nI (k + 1))), (2, .int (nI (ct (stA o) (k + 1)))), (0, .ref b0), (1, .ref q2)]) hx hb dX0_startsIn_30 hl (k := 1) rfl (z_inc _) (by decide) rfl (fun ls hl => ?_)
      refine lv_goto (tgt := 9) hx hb dX0_startsIn_33 (by decide) ?_
      exact ih9 ((k + 1), (upd g (ct (stA o) k) (nI k))) ls H locs (show n - (k + 1) < dd9 by omega) ⟨lv_sub hl [0, 1, 2, 3] rfl, hW, hS, (show (k + 1) ≤ n from by omega), (show ∀ j, j < ct (stA o) (k + 1) → (upd g (ct (stA o) k) (nI k)) j = nI (posN o n j) from fun j hj => by
                    rw [ct_t hc20] at hj
                    by_cases e9 : j = ct (stA o) k
                    · rw [e9, pos_uq (by omega) hc20]; exact if_pos rfl
                    · rw [show upd g (ct (stA o) k) (nI k) j = g j from if_neg e9]; exact hg j (by omega))⟩

set_option maxHeartbeats 4000000 in
set_option maxRecDepth 100000 in
theorem c_X0_init (l : Launch) (D : va_G) (cs : Nat → ClassId) (S0 : Nat) (ea mi : Nat) (sa : Nat → Nat) (ws : va_W) (h9 oa gr n : Nat) (b9 g9 : Int32) (o : Nat → Int32) (hm : (oa, fa cs n o) ∈ ws) (hn : n ≤ 400) : Met l yX0_init wsX0_init ({ frames := 3, cells := 2, slots := 800, locals := 85 }) (zE [.ref h9, .int b9, .int g9, .ref gr, .ref oa] (fun H => Wd D S0 ((h9, .inr (1, [.int 0, .int 0, .null, .null, .null, .int 0, .int 0])) :: ws) H) D cs S0 ea mi sa) (va_Qv (fun _ : Nat × Nat × (Nat → Int32) => True) (fun u t => Wd D S0 ((u.1, fa cs (manyN o n) (fun i => nI (posN o n i))) :: (u.2.1, fa cs n u.2.2) :: (h9, .inr (1, [.int b9, .int g9, .ref gr, .ref oa, .ref u.1, .int (nI (litN o n)), .int (nI (costN o n))])) :: ws) t.heap) (SA S0)) 2 800 (SA S0) := by
  refine Met.ofW (cc := cX0_init) (maxL := 5) (ret := none) (by decide) rfl ?_
  intro p e s m args below meth c s₁ B hml hv
  obtain ⟨rfl, hW, hK, hE⟩ := hv
  have hx := B.exec
  have hb := B.bytes
  have hr := B.returns
  have hts := atoms_spec (ws := wsX0_init) B.pre
  have hown : s.vm.findClass RX0 = some m.cls := findClass_of_methodNamed B.named
  have hlocks := B.notSynchronized
  have hin9 : meth.name = "<init>" := (name_of_methodNamed B.named B.method).1
  have hRc : (headSpec wsX0_init ({ frames := 3, cells := 2, slots := 800, locals := 85 })).room.cells = 2 := rfl
  have hRs : (headSpec wsX0_init ({ frames := 3, cells := 2, slots := 800, locals := 85 })).room.slots = 800 := rfl
  have fl15 := hts (.fieldLink RX0 15 "DeltaUpdater$Patch" "goal" "I") (by decide +kernel)
  have fl18 := hts (.fieldLink RX0 18 "DeltaUpdater$Patch" "goalRow" "LDeltaUpdater$Row;") (by decide +kernel)
  have fl22 := hts (.fieldLink RX0 22 "DeltaUpdater$Patch" "origins" "[I") (by decide +kernel)
  have fl30 := hts (.fieldLink RX0 30 "DeltaUpdater$Patch" "starts" "[I") (by decide +kernel)
  have fl37 := hts (.fieldLink RX0 37 "DeltaUpdater$Patch" "literalBytes" "I") (by decide +kernel)
  have fl43 := hts (.fieldLink RX0 43 "DeltaUpdater$Patch" "price" "I") (by decide +kernel)
  have fl9 := hts (.fieldLink RX0 9 "DeltaUpdater$Patch" "base" "I") (by decide +kernel)
  have in1 : ∀ w ∈ u_ws RX0 TX0 7, w ∈ wsX0_init := by decide +kernel
  have hW : Wd D S0 ((h9, .inr (1, [.int 0, .int 0, .null, .null, .null, .int 0, .int 0])) :: ws) s.heap := hW
  have hS0 : S0 ≤ s.heap.size := hW.2.2
  have hS : va_S (SA S0) s.heap s.heap [] := va_S.rf
  have hl := lv_entry ([.ref h9, .int b9, .int g9, .ref gr, .ref oa]) (n := 5) (Nat.le_of_ble_eq_true rfl)
  rw [lg_entry_eq]
  generalize (lg_sl ([.ref h9, .int b9, .int g9, .ref gr, .ref oa]) ++ List.replicate (5 - (lg_sl ([.ref h9, .int b9, .int g9, .ref gr, .ref oa])).length) Slot.unset).toArray = ls at hl ⊢
  have hl : lv_has ls 5 [(0, .ref h9), (1, .int b9), (2, .int g9), (3, .ref gr), (4, .ref oa)] := hl
  have hlt9 : litN o n ≤ n := ct_le (ltA o) n
  refine lv_aload_n hx hb dX0_init_0 rfl (lv_at hl 0 rfl) ?_
  refine W.objInit hx hb hown (hts (.methodLink RX0 3 objectInit) (by decide +kernel)) (hts (.instanceMethod objectInit) (by decide +kernel)) (hts (.code objectInit ⟨#[0xb1]⟩ 1 none) (by decide +kernel)) rfl (by rw [hml]; exact hl.1) rfl dX0_init_1 (Nat.le_of_ble_eq_true rfl) (Nat.le_of_ble_eq_true rfl) ?_
  refine W.eq (g2 := F0 m 4 ls []) rfl ?_
  refine lv_aload_n hx hb dX0_init_4 rfl (lv_at hl 0 rfl) ?_
  refine lv_iload_n hx hb dX0_init_5 rfl (lv_at hl 1 rfl) ?_
  refine z_putF (ty := .int) (ci := 1) (v := .int b9) (C := RX0) (T := TX0) (N := 7) hx hb hts in1 tyX0 tyX0_ok nmX0 hown hK hW hS 0 rfl rfl 0 (by decide) fl9 (fun _ h9 => h9) rfl hin9 rfl (by decide +kernel) rfl rfl (Nat.le_of_ble_eq_true rfl) dX0_init_6 (fun H locs hW hS => ?_)
  have hW : Wd D S0 ((h9, .inr (1, [.int b9, .int 0, .null, .null, .null, .int 0, .int 0])) :: ws) H := hW
  refine lv_aload_n hx hb dX0_init_9 rfl (lv_at hl 0 rfl) ?_
  refine lv_iload_n hx hb dX0_init_10 rfl (lv_at hl 2 rfl) ?_
  refine z_putF (ty := .int) (ci := 1) (v := .int g9) (C := RX0) (T := TX0) (N := 7) hx hb hts in1 tyX0 tyX0_ok nmX0 hown hK hW hS 0 rfl rfl 1 (by decide) fl15 (fun _ h9 => h9) rfl hin9 rfl (by decide +kernel) rfl rfl (Nat.le_of_ble_eq_true rfl) dX0_init_11 (fun H locs hW hS => ?_)
  have hW : Wd D S0 ((h9, .inr (1, [.int b9, .int g9, .null, .null, .null, .int 0, .int 0])) :: ws) H := hW
  refine lv_aload_n hx hb dX0_init_14 rfl (lv_at hl 0 rfl) ?_
  refine lv_aload_n hx hb dX0_init_15 rfl (lv_at hl 3 rfl) ?_
  refine z_putF (ty := (.object "DeltaUpdater$Row")) (ci := 1) (v := .ref gr) (C := RX0) (T := TX0) (N := 7) hx hb hts in1 tyX0 tyX0_ok nmX0 hown hK hW hS 0 rfl rfl 2 (by decide) fl18 (fun _ h9 => h9) rfl hin9 rfl (by decide +kernel) rfl rfl (Nat.le_of_ble_eq_true rfl) dX0_init_16 (fun H locs hW hS => ?_)
  have hW : Wd D S0 ((h9, .inr (1, [.int b9, .int g9, .ref gr, .null, .null, .int 0, .int 0])) :: ws) H := hW
  refine lv_aload_n hx hb dX0_init_19 rfl (lv_at hl 0 rfl) ?_
  refine lv_aload hx hb dX0_init_20 (lv_at hl 4 rfl) ?_
  refine z_putF (ty := (.array .int)) (ci := 1) (v := .ref oa) (C := RX0) (T := TX0) (N := 7) hx hb hts in1 tyX0 tyX0_ok nmX0 hown hK hW hS 0 rfl rfl 3 (by decide) fl22 (fun _ h9 => h9) rfl hin9 rfl (by decide +kernel) rfl rfl (Nat.le_of_ble_eq_true rfl) dX0_init_22 (fun H locs hW hS => ?_)
  have hW : Wd D S0 ((h9, .inr (1, [.int b9, .int g9, .ref gr, .ref oa, .null, .int 0, .int 0])) :: ws) H := hW
  refine lv_aload_n hx hb dX0_init_25 rfl (lv_at hl 0 rfl) ?_
  refine lv_aload hx hb dX0_init_26 (lv_at hl 4 rfl) ?_
  refine z_cmR (va_runS (As := [.ref oa]) (rest := [.ref h9]) ⟨hx, hb, hml, hown, hts⟩ (c_X0_startsIn l D cs S0 ea mi sa ((h9, .inr (1, [.int b9, .int g9, .ref gr, .ref oa, .null, .int 0, .int 0])) :: ws) oa n o (List.mem_cons_of_mem _ hm) hn) (va_cwS 1 hts gX0_init_X0_startsIn rfl rfl rfl (by decide +kernel) ⟨Nat.le_of_ble_eq_true rfl, Nat.le_of_ble_eq_true rfl⟩) ⟨zE_blind, (zE_pre hW hK hE hS)⟩ rfl rfl hl.1 rfl (lv_room (Nat.le_of_ble_eq_true rfl)) dX0_init_28 ⟨(by rw [hRc]; omega), (by rw [hRs]; omega)⟩) hS (fun u9 ra H locs hu hW hpr hS => ?_)
  have hW : Wd D S0 ((ra, fa cs (manyN o n) (fun i => nI ((posN o n) i))) :: (u9.1, fa cs n u9.2) :: (h9, .inr (1, [.int b9, .int g9, .ref gr, .ref oa, .null, .int 0, .int 0])) :: ws) H := hW
  refine z_putF (ty := (.array .int)) (ci := 1) (v := .ref ra) (C := RX0) (T := TX0) (N := 7) hx hb hts in1 tyX0 tyX0_ok nmX0 hown hK hW hS 2 rfl rfl 4 (by decide) fl30 (fun _ h9 => h9) rfl hin9 rfl (by decide +kernel) rfl rfl (Nat.le_of_ble_eq_true rfl) dX0_init_31 (fun H locs hW hS => ?_)
  have hW : Wd D S0 ((ra, fa cs (manyN o n) (fun i => nI ((posN o n) i))) :: (u9.1, fa cs n u9.2) :: (h9, .inr (1, [.int b9, .int g9, .ref gr, .ref oa, .ref ra, .int 0, .int 0])) :: ws) H := hW
  refine lv_aload_n hx hb dX0_init_34 rfl (lv_at hl 0 rfl) ?_
  refine lv_aload hx hb dX0_init_35 (lv_at hl 4 rfl) ?_
  refine z_csS (As := [.ref oa]) (rest := [.ref h9]) ⟨hx, hb, hml, hown, hts⟩ (c_X0_literalsIn l D cs oa n o (by omega)) (va_cwS 1 hts gX0_init_X0_literalsIn rfl rfl rfl (by decide +kernel) ⟨Nat.le_of_ble_eq_true rfl, Nat.le_of_ble_eq_true rfl⟩) (hW.mem (List.mem_cons_of_mem _ (List.mem_cons_of_mem _ (List.mem_cons_of_mem _ hm)))) hK rfl hl.1 rfl (Nat.le_of_ble_eq_true rfl) dX0_init_37 ⟨(by rw [hRc]; omega), (by rw [hRs]; omega)⟩ (fun r hq9 => ?_)
  have hq9 : r = nI (litN o n) := hq9
  subst hq9
  refine z_putF (ty := .int) (ci := 1) (v := .int (nI (litN o n))) (C := RX0) (T := TX0) (N := 7) hx hb hts in1 tyX0 tyX0_ok nmX0 hown hK hW hS 2 rfl rfl 5 (by decide) fl37 (fun _ h9 => h9) rfl hin9 rfl (by decide +kernel) rfl rfl (Nat.le_of_ble_eq_true rfl) dX0_init_40 (fun H locs hW hS => ?_)
  have hW : Wd D S0 ((ra, fa cs (manyN o n) (fun i => nI ((posN o n) i))) :: (u9.1, fa cs n u9.2) :: (h9, .inr (1, [.int b9, .int g9, .ref gr, .ref oa, .ref ra, .int (nI (litN o n)), .int 0])) :: ws) H := hW
  refine lv_aload_n hx hb dX0_init_43 rfl (lv_at hl 0 rfl) ?_
  refine lv_aload hx hb dX0_init_44 (lv_at hl 4 rfl) ?_
  refine z_csS (As := [.ref oa]) (rest := [.ref h9]) ⟨hx, hb, hml, hown, hts⟩ (c_X0_priceOf l D cs oa n o hn) (va_cwS 1 hts gX0_init_X0_priceOf rfl rfl rfl (by decide +kernel) ⟨Nat.le_of_ble_eq_true rfl, Nat.le_of_ble_eq_true rfl⟩) (hW.mem (List.mem_cons_of_mem _ (List.mem_cons_of_mem _ (List.mem_cons_of_mem _ hm)))) hK rfl hl.1 rfl (Nat.le_of_ble_eq_true rfl) dX0_init_46 ⟨(by rw [hRc]; omega), (by rw [hRs]; omega)⟩ (fun r hq9 => ?_)
  have hq9 : r = nI (costN o n) := hq9
  subst hq9
  refine z_putF (ty := .int) (ci := 1) (v := .int (nI (costN o n))) (C := RX0) (T := TX0) (N := 7) hx hb hts in1 tyX0 tyX0_ok nmX0 hown hK hW hS 2 rfl rfl 6 (by decide) fl43 (fun _ h9 => h9) rfl hin9 rfl (by decide +kernel) rfl rfl (Nat.le_of_ble_eq_true rfl) dX0_init_49 (fun H locs hW hS => ?_)
  have hW : Wd D S0 ((ra, fa cs (manyN o n) (fun i => nI ((posN o n) i))) :: (u9.1, fa cs n u9.2) :: (h9, .inr (1, [.int b9, .int g9, .ref gr, .ref oa, .ref ra, .int (nI (litN o n)), .int (nI (costN o n))])) :: ws) H := hW
  refine W.widen (k := 2) (n := 800) (by omega) (by omega) ?_
  exact W.vret hx hb hr (fun t ht hW9 => ⟨⟨(ra, u9), rfl, trivial, (by show Wd D S0 _ _; rw [ht]; exact hW)⟩, hS.F ht⟩) (fun q9 h9 => hS.2.2 q9 h9) dX0_init_52

