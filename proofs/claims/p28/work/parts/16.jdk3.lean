/-! a list's add and remove -/
def rmF (f : Nat → Option Nat) (i n : Nat) : Nat → Option Nat := va_up (if i + 1 < n then va_cpy f f (i + 1) i (n - 1 - i) else f) (n - 1) none

set_option maxHeartbeats 4000000 in
set_option maxRecDepth 100000 in
theorem c_Jx4a65c_add_72be8_R (l : Launch) (D : va_G) (cs : Nat → ClassId) (S0 : Nat) (ea mi : Nat) (sa : Nat → Nat) (ws : va_W) (lo ed n cn ci : Nat) (mc : Int32) (f : Nat → Option Nat) (hcn : cn < n) (hn : n ≤ 100) (hci : ci = 1 ∨ ci = 2) (v : Nat) (vs : List Value) (hv : (v, (Sum.inr (ci, vs) : va_E)) ∈ ws) : Met l yJx4a65c_add_72be8 wsJx4a65c_add_72be8 ({ frames := 0, cells := 0, slots := 0, locals := 0 }) (zE [.ref lo, .ref v, .ref ed, .int (nI cn)] (fun H => Wd D S0 ((lo, .inr (0, [.int mc, .ref ed, .int (nI cn)])) :: (ed, qa cs 1 n f) :: ws) H) D cs S0 ea mi sa) (va_Qv (fun _ : Unit => True) (fun u t => Wd D S0 ((lo, .inr (0, [.int mc, .ref ed, .int (nI (cn + 1))])) :: (ed, qa cs 1 n (va_up f cn (some v))) :: ws) t.heap) (SA S0)) 0 0 (SA S0) := by
  refine Met.ofW (cc := cJx4a65c_add_72be8) (maxL := 4) (ret := none) (by decide) rfl ?_
  intro p e s m args below meth c s₁ B hml hv
  obtain ⟨rfl, hW, hK, hE⟩ := hv
  have hx := B.exec
  have hb := B.bytes
  have hr := B.returns
  have hts := atoms_spec (ws := wsJx4a65c_add_72be8) B.pre
  have hown : s.vm.findClass RJx4a65c = some m.cls := findClass_of_methodNamed B.named
  have hlocks := B.notSynchronized
  have hRc : (headSpec wsJx4a65c_add_72be8 ({ frames := 0, cells := 0, slots := 0, locals := 0 })).room.cells = 0 := rfl
  have hRs : (headSpec wsJx4a65c_add_72be8 ({ frames := 0, cells := 0, slots := 0, locals := 0 })).room.slots = 0 := rfl
  have fl48 := hts (.fieldLink RJx4a65c 48 "java/util/ArrayList" "size" "I") (by decide +kernel)
  have in0 : ∀ w ∈ u_ws RJx4a65c TJx4a65c 3, w ∈ wsJx4a65c_add_72be8 := by decide +kernel
  have hW : Wd D S0 ((lo, .inr (0, [.int mc, .ref ed, .int (nI cn)])) :: (ed, qa cs 1 n f) :: ws) s.heap := hW
  have hS0 : S0 ≤ s.heap.size := hW.2.2
  have hS : va_S (SA S0) s.heap s.heap [] := va_S.rf
  have hl := lv_entry ([.ref lo, .ref v, .ref ed, .int (nI cn)]) (n := 4) (Nat.le_of_ble_eq_true rfl)
  rw [lg_entry_eq]
  generalize (lg_sl ([.ref lo, .ref v, .ref ed, .int (nI cn)]) ++ List.replicate (4 - (lg_sl ([.ref lo, .ref v, .ref ed, .int (nI cn)])).length) Slot.unset).toArray = ls at hl ⊢
  have hl : lv_has ls 4 [(0, .ref lo), (1, .ref v), (2, .ref ed), (3, .int (nI cn))] := hl
  refine lv_iload_n hx hb dJx4a65c_add_72be8_0 rfl (lv_at hl 3 rfl) ?_
  refine lv_aload_n hx hb dJx4a65c_add_72be8_1 rfl (lv_at hl 2 rfl) ?_
  refine z_alenq (n := n) hx hb hK (hW.1 1 _ rfl) rfl dJx4a65c_add_72be8_2 ?_
  refine z_icmp_ne (tgt := 11) hx hb (by omega) (by omega) dJx4a65c_add_72be8_3 (by decide) (fun hc3 => ?_) (fun hc3 => ?_)
  · skip
    have hc3 : ¬ cn = n := hc3
    refine lv_aload_n hx hb dJx4a65c_add_72be8_11 rfl (lv_at hl 2 rfl) ?_
    refine lv_iload_n hx hb dJx4a65c_add_72be8_12 rfl (lv_at hl 3 rfl) ?_
    refine lv_aload_n hx hb dJx4a65c_add_72be8_13 rfl (lv_at hl 1 rfl) ?_
    refine z_astO (k := cn) hx hb hE.2.2.2.2 hK hW hS 1 hci rfl (List.mem_cons_of_mem _ (List.mem_cons_of_mem _ hv)) (by omega) (by omega) dJx4a65c_add_72be8_14 (fun H locs hW hS => ?_)
    have hW : Wd D S0 ((lo, .inr (0, [.int mc, .ref ed, .int (nI cn)])) :: (ed, qa cs 1 n (va_up f cn (some v))) :: ws) H := hW
    refine lv_aload_n hx hb dJx4a65c_add_72be8_15 rfl (lv_at hl 0 rfl) ?_
    refine lv_iload_n hx hb dJx4a65c_add_72be8_16 rfl (lv_at hl 3 rfl) ?_
    refine lv_iconst (v := nI 1) hx hb dJx4a65c_add_72be8_17 (by decide) ?_
    refine lv_iadd hx hb dJx4a65c_add_72be8_18 ?_
    refine zti (nI_add _ _) (y := nI (cn + 1)) ?_
    refine z_put (ty := .int) (ci := 0) (v := .int (nI (cn + 1))) (C := RJx4a65c) (T := TJx4a65c) (N := 3) hx hb hts in0 tyJx4a65c tyJx4a65c_ok nmJx4a65c hown hK hW hS 0 rfl rfl 2 (by decide) fl48 (fun _ h9 => h9) rfl (by decide +kernel) rfl rfl (Nat.le_of_ble_eq_true rfl) dJx4a65c_add_72be8_19 (fun H locs hW hS => ?_)
    have hW : Wd D S0 ((lo, .inr (0, [.int mc, .ref ed, .int (nI (cn + 1))])) :: (ed, qa cs 1 n (va_up f cn (some v))) :: ws) H := hW
    refine W.widen (k := 0) (n := 0) (by omega) (by omega) ?_
    exact W.vret hx hb hr (fun t ht hW9 => ⟨⟨(), rfl, trivial, (by show Wd D S0 _ _; rw [ht]; exact hW)⟩, hS.F ht⟩) (fun q9 h9 => hS.2.2 q9 h9) dJx4a65c_add_72be8_22
  · skip
    have hc3 : cn = n := hc3
    omega

set_option maxHeartbeats 4000000 in
set_option maxRecDepth 100000 in
theorem c_Jx4a65c_add_72be8_A (l : Launch) (D : va_G) (cs : Nat → ClassId) (S0 : Nat) (ea mi : Nat) (sa : Nat → Nat) (ws : va_W) (lo ed n ci : Nat) (mc : Int32) (f : Nat → Option Nat) (hn4 : 4 ≤ n) (hn5 : n ≤ 100) (hci : ci = 1 ∨ ci = 2) (hel : ∀ i, i < n → ∀ y, f i = some y → ∃ vs, (y, (Sum.inr (ci, vs) : va_E)) ∈ ws) (v : Nat) (vs : List Value) (hv : (v, (Sum.inr (ci, vs) : va_E)) ∈ ws) : Met l yJx4a65c_add_72be8 wsJx4a65c_add_72be8 ({ frames := 5, cells := 1, slots := 400, locals := 127 }) (zE [.ref lo, .ref v, .ref ed, .int (nI n)] (fun H => Wd D S0 ((lo, .inr (0, [.int mc, .ref ed, .int (nI n)])) :: (ed, qa cs 1 n f) :: ws) H) D cs S0 ea mi sa) (va_Qv (fun _ : Nat => True) (fun u t => Wd D S0 ((u, qa cs 1 (n + n / 2) (va_up (va_cpy f (fun _ => none) 0 0 n) n (some v))) :: (lo, .inr (0, [.int mc, .ref u, .int (nI (n + 1))])) :: (ed, qa cs 1 n f) :: ws) t.heap) (SA S0)) 1 400 (SA S0) := by
  refine Met.ofW (cc := cJx4a65c_add_72be8) (maxL := 4) (ret := none) (by decide) rfl ?_
  intro p e s m args below meth c s₁ B hml hv
  obtain ⟨rfl, hW, hK, hE⟩ := hv
  have hx := B.exec
  have hb := B.bytes
  have hr := B.returns
  have hts := atoms_spec (ws := wsJx4a65c_add_72be8) B.pre
  have hown : s.vm.findClass RJx4a65c = some m.cls := findClass_of_methodNamed B.named
  have hlocks := B.notSynchronized
  have hRc : (headSpec wsJx4a65c_add_72be8 ({ frames := 5, cells := 1, slots := 400, locals := 127 })).room.cells = 1 := rfl
  have hRs : (headSpec wsJx4a65c_add_72be8 ({ frames := 5, cells := 1, slots := 400, locals := 127 })).room.slots = 400 := rfl
  have fl48 := hts (.fieldLink RJx4a65c 48 "java/util/ArrayList" "size" "I") (by decide +kernel)
  have in0 : ∀ w ∈ u_ws RJx4a65c TJx4a65c 3, w ∈ wsJx4a65c_add_72be8 := by decide +kernel
  have hW : Wd D S0 ((lo, .inr (0, [.int mc, .ref ed, .int (nI n)])) :: (ed, qa cs 1 n f) :: ws) s.heap := hW
  have hS0 : S0 ≤ s.heap.size := hW.2.2
  have hS : va_S (SA S0) s.heap s.heap [] := va_S.rf
  have hl := lv_entry ([.ref lo, .ref v, .ref ed, .int (nI n)]) (n := 4) (Nat.le_of_ble_eq_true rfl)
  rw [lg_entry_eq]
  generalize (lg_sl ([.ref lo, .ref v, .ref ed, .int (nI n)]) ++ List.replicate (4 - (lg_sl ([.ref lo, .ref v, .ref ed, .int (nI n)])).length) Slot.unset).toArray = ls at hl ⊢
  have hl : lv_has ls 4 [(0, .ref lo), (1, .ref v), (2, .ref ed), (3, .int (nI n))] := hl
  refine lv_iload_n hx hb dJx4a65c_add_72be8_0 rfl (lv_at hl 3 rfl) ?_
  refine lv_aload_n hx hb dJx4a65c_add_72be8_1 rfl (lv_at hl 2 rfl) ?_
  refine z_alenq (n := n) hx hb hK (hW.1 1 _ rfl) rfl dJx4a65c_add_72be8_2 ?_
  refine z_icmp_ne (tgt := 11) hx hb (by omega) (by omega) dJx4a65c_add_72be8_3 (by decide) (fun hc3 => ?_) (fun hc3 => ?_)
  · skip
    have hc3 : ¬ n = n := hc3
    exact absurd rfl hc3
  · skip
    have hc3 : n = n := hc3
    refine lv_aload_n hx hb dJx4a65c_add_72be8_6 rfl (lv_at hl 0 rfl) ?_
    refine z_cmR (va_runV (As := []) (rest := []) ⟨hx, hb, hml, hown, hts⟩ (c_Jx4a65c_grow_d5877_A l D cs S0 ea mi sa ws lo ed n ci mc f hn4 hn5 hci hel) (cwV 0 hts gJx4a65c_add_72be8_Jx4a65c_grow_d5877 rfl rfl rfl (by decide +kernel) ⟨Nat.le_of_ble_eq_true rfl, Nat.le_of_ble_eq_true rfl⟩) ⟨zE_blind, z_recv hK (hW.1 0 _ rfl) rfl, (zE_pre hW hK hE hS)⟩ rfl rfl hl.1 rfl (lv_room (Nat.le_of_ble_eq_true rfl)) dJx4a65c_add_72be8_7 ⟨(by rw [hRc]; omega), (by rw [hRs]; omega)⟩) hS (fun u9 ra H locs hu hW hpr hS => ?_)
    have hW : Wd D S0 ((ra, qa cs 1 (n + n / 2) (va_cpy f (fun _ => none) 0 0 n)) :: (lo, .inr (0, [.int mc, .ref ra, .int (nI n)])) :: (ed, qa cs 1 n f) :: ws) H := hW
    refine lv_astore_n (lv' := [(2, .ref ra), (0, .ref lo), (1, .ref v), (3, .int (nI n))]) hx hb dJx4a65c_add_72be8_10 rfl hl (by decide) rfl (fun ls hl => ?_)
    refine lv_aload_n hx hb dJx4a65c_add_72be8_11 rfl (lv_at hl 0 rfl) ?_
    refine lv_iload_n hx hb dJx4a65c_add_72be8_12 rfl (lv_at hl 3 rfl) ?_
    refine lv_aload_n hx hb dJx4a65c_add_72be8_13 rfl (lv_at hl 2 rfl) ?_
    refine z_astO (k := n) hx hb hE.2.2.2.2 hK hW hS 0 hci rfl (List.mem_cons_of_mem _ (List.mem_cons_of_mem _ (List.mem_cons_of_mem _ hv))) (by omega) (by omega) dJx4a65c_add_72be8_14 (fun H locs hW hS => ?_)
    have hW : Wd D S0 ((ra, qa cs 1 (n + n / 2) (va_up (va_cpy f (fun _ => none) 0 0 n) n (some v))) :: (lo, .inr (0, [.int mc, .ref ra, .int (nI n)])) :: (ed, qa cs 1 n f) :: ws) H := hW
    refine lv_aload_n hx hb dJx4a65c_add_72be8_15 rfl (lv_at hl 1 rfl) ?_
    refine lv_iload_n hx hb dJx4a65c_add_72be8_16 rfl (lv_at hl 3 rfl) ?_
    refine lv_iconst (v := nI 1) hx hb dJx4a65c_add_72be8_17 (by decide) ?_
    refine lv_iadd hx hb dJx4a65c_add_72be8_18 ?_
    refine zti (nI_add _ _) (y := nI (n + 1)) ?_
    refine z_put (ty := .int) (ci := 0) (v := .int (nI (n + 1))) (C := RJx4a65c) (T := TJx4a65c) (N := 3) hx hb hts in0 tyJx4a65c tyJx4a65c_ok nmJx4a65c hown hK hW hS 1 rfl rfl 2 (by decide) fl48 (fun _ h9 => h9) rfl (by decide +kernel) rfl rfl (Nat.le_of_ble_eq_true rfl) dJx4a65c_add_72be8_19 (fun H locs hW hS => ?_)
    have hW : Wd D S0 ((ra, qa cs 1 (n + n / 2) (va_up (va_cpy f (fun _ => none) 0 0 n) n (some v))) :: (lo, .inr (0, [.int mc, .ref ra, .int (nI (n + 1))])) :: (ed, qa cs 1 n f) :: ws) H := hW
    refine W.widen (k := 1) (n := 400) (by omega) (by omega) ?_
    exact W.vret hx hb hr (fun t ht hW9 => ⟨⟨ra, rfl, trivial, (by show Wd D S0 _ _; rw [ht]; exact hW)⟩, hS.F ht⟩) (fun q9 h9 => hS.2.2 q9 h9) dJx4a65c_add_72be8_22

set_option maxHeartbeats 4000000 in
set_option maxRecDepth 100000 in
theorem c_Jx4a65c_add_72be8_B (l : Launch) (D : va_G) (cs : Nat → ClassId) (S0 : Nat) (ea mi : Nat) (sa : Nat → Nat) (ws : va_W) (lo ci : Nat) (mc : Int32) (hci : ci = 1 ∨ ci = 2) (v : Nat) (vs : List Value) (hv : (v, (Sum.inr (ci, vs) : va_E)) ∈ ws) : Met l yJx4a65c_add_72be8 wsJx4a65c_add_72be8 ({ frames := 3, cells := 1, slots := 10, locals := 83 }) (zE [.ref lo, .ref v, .ref ea, .int (nI 0)] (fun H => Wd D S0 ((lo, .inr (0, [.int mc, .ref ea, .int (nI 0)])) :: ws) H) D cs S0 ea mi sa) (va_Qv (fun _ : Nat => True) (fun u t => Wd D S0 ((lo, .inr (0, [.int mc, .ref u, .int (nI 1)])) :: (u, qa cs 1 10 (va_up (fun _ => none) 0 (some v))) :: ws) t.heap) (SA S0)) 1 10 (SA S0) := by
  refine Met.ofW (cc := cJx4a65c_add_72be8) (maxL := 4) (ret := none) (by decide) rfl ?_
  intro p e s m args below meth c s₁ B hml hv
  obtain ⟨rfl, hW, hK, hE⟩ := hv
  have hx := B.exec
  have hb := B.bytes
  have hr := B.returns
  have hts := atoms_spec (ws := wsJx4a65c_add_72be8) B.pre
  have hown : s.vm.findClass RJx4a65c = some m.cls := findClass_of_methodNamed B.named
  have hlocks := B.notSynchronized
  have hRc : (headSpec wsJx4a65c_add_72be8 ({ frames := 3, cells := 1, slots := 10, locals := 83 })).room.cells = 1 := rfl
  have hRs : (headSpec wsJx4a65c_add_72be8 ({ frames := 3, cells := 1, slots := 10, locals := 83 })).room.slots = 10 := rfl
  have fl48 := hts (.fieldLink RJx4a65c 48 "java/util/ArrayList" "size" "I") (by decide +kernel)
  have in0 : ∀ w ∈ u_ws RJx4a65c TJx4a65c 3, w ∈ wsJx4a65c_add_72be8 := by decide +kernel
  have hW : Wd D S0 ((lo, .inr (0, [.int mc, .ref ea, .int (nI 0)])) :: ws) s.heap := hW
  have hS0 : S0 ≤ s.heap.size := hW.2.2
  have hS : va_S (SA S0) s.heap s.heap [] := va_S.rf
  have hl := lv_entry ([.ref lo, .ref v, .ref ea, .int (nI 0)]) (n := 4) (Nat.le_of_ble_eq_true rfl)
  rw [lg_entry_eq]
  generalize (lg_sl ([.ref lo, .ref v, .ref ea, .int (nI 0)]) ++ List.replicate (4 - (lg_sl ([.ref lo, .ref v, .ref ea, .int (nI 0)])).length) Slot.unset).toArray = ls at hl ⊢
  have hl : lv_has ls 4 [(0, .ref lo), (1, .ref v), (2, .ref ea), (3, .int (nI 0))] := hl
  refine lv_iload_n hx hb dJx4a65c_add_72be8_0 rfl (lv_at hl 3 rfl) ?_
  refine lv_aload_n hx hb dJx4a65c_add_72be8_1 rfl (lv_at hl 2 rfl) ?_
  refine va_tlen hx hb hE.2.1 hS (v := nI 0) (by decide) dJx4a65c_add_72be8_2 ?_
  refine z_icmp_ne (tgt := 11) hx hb (by omega) (by omega) dJx4a65c_add_72be8_3 (by decide) (fun hc3 => ?_) (fun hc3 => ?_)
  · skip
    have hc3 : ¬ 0 = 0 := hc3
    exact absurd rfl hc3
  · skip
    have hc3 : 0 = 0 := hc3
    refine lv_aload_n hx hb dJx4a65c_add_72be8_6 rfl (lv_at hl 0 rfl) ?_
    refine z_cmR (va_runV (As := []) (rest := []) ⟨hx, hb, hml, hown, hts⟩ (c_Jx4a65c_grow_d5877_B l D cs S0 ea mi sa ws lo mc) (cwV 0 hts gJx4a65c_add_72be8_Jx4a65c_grow_d5877 rfl rfl rfl (by decide +kernel) ⟨Nat.le_of_ble_eq_true rfl, Nat.le_of_ble_eq_true rfl⟩) ⟨zE_blind, z_recv hK (hW.1 0 _ rfl) rfl, (zE_pre hW hK hE hS)⟩ rfl rfl hl.1 rfl (lv_room (Nat.le_of_ble_eq_true rfl)) dJx4a65c_add_72be8_7 ⟨(by rw [hRc]; omega), (by rw [hRs]; omega)⟩) hS (fun u9 ra H locs hu hW hpr hS => ?_)
    have hW : Wd D S0 ((lo, .inr (0, [.int mc, .ref ra, .int (nI 0)])) :: (ra, qa cs 1 10 (fun _ => none)) :: ws) H := hW
    refine lv_astore_n (lv' := [(2, .ref ra), (0, .ref lo), (1, .ref v), (3, .int (nI 0))]) hx hb dJx4a65c_add_72be8_10 rfl hl (by decide) rfl (fun ls hl => ?_)
    refine lv_aload_n hx hb dJx4a65c_add_72be8_11 rfl (lv_at hl 0 rfl) ?_
    refine lv_iload_n hx hb dJx4a65c_add_72be8_12 rfl (lv_at hl 3 rfl) ?_
    refine lv_aload_n hx hb dJx4a65c_add_72be8_13 rfl (lv_at hl 2 rfl) ?_
    refine z_astO (k := 0) hx hb hE.2.2.2.2 hK hW hS 1 hci rfl (List.mem_cons_of_mem _ (List.mem_cons_of_mem _ hv)) (by omega) (by omega) dJx4a65c_add_72be8_14 (fun H locs hW hS => ?_)
    have hW : Wd D S0 ((lo, .inr (0, [.int mc, .ref ra, .int (nI 0)])) :: (ra, qa cs 1 10 (va_up (fun _ => none) 0 (some v))) :: ws) H := hW
    refine lv_aload_n hx hb dJx4a65c_add_72be8_15 rfl (lv_at hl 1 rfl) ?_
    refine lv_iload_n hx hb dJx4a65c_add_72be8_16 rfl (lv_at hl 3 rfl) ?_
    refine lv_iconst (v := nI 1) hx hb dJx4a65c_add_72be8_17 (by decide) ?_
    refine lv_iadd hx hb dJx4a65c_add_72be8_18 ?_
    refine zti (nI_add _ _) (y := nI 1) ?_
    refine z_put (ty := .int) (ci := 0) (v := .int (nI 1)) (C := RJx4a65c) (T := TJx4a65c) (N := 3) hx hb hts in0 tyJx4a65c tyJx4a65c_ok nmJx4a65c hown hK hW hS 0 rfl rfl 2 (by decide) fl48 (fun _ h9 => h9) rfl (by decide +kernel) rfl rfl (Nat.le_of_ble_eq_true rfl) dJx4a65c_add_72be8_19 (fun H locs hW hS => ?_)
    have hW : Wd D S0 ((lo, .inr (0, [.int mc, .ref ra, .int (nI 1)])) :: (ra, qa cs 1 10 (va_up (fun _ => none) 0 (some v))) :: ws) H := hW
    refine W.widen (k := 1) (n := 10) (by omega) (by omega) ?_
    exact W.vret hx hb hr (fun t ht hW9 => ⟨⟨ra, rfl, trivial, (by show Wd D S0 _ _; rw [ht]; exact hW)⟩, hS.F ht⟩) (fun q9 h9 => hS.2.2 q9 h9) dJx4a65c_add_72be8_22

set_option maxHeartbeats 4000000 in
set_option maxRecDepth 100000 in
theorem c_Jx4a65c_add_9ea2d_R (l : Launch) (D : va_G) (cs : Nat → ClassId) (S0 : Nat) (ea mi : Nat) (sa : Nat → Nat) (ws : va_W) (lo ed n cn ci : Nat) (mc : Int32) (f : Nat → Option Nat) (hcn : cn < n) (hn : n ≤ 100) (hci : ci = 1 ∨ ci = 2) (v : Nat) (vs : List Value) (hv : (v, (Sum.inr (ci, vs) : va_E)) ∈ ws) : Met l yJx4a65c_add_9ea2d wsJx4a65c_add_9ea2d ({ frames := 1, cells := 0, slots := 0, locals := 23 }) (zE [.ref lo, .ref v] (fun H => Wd D S0 ((lo, .inr (0, [.int mc, .ref ed, .int (nI cn)])) :: (ed, qa cs 1 n f) :: ws) H) D cs S0 ea mi sa) (va_Qi (fun _ (_ : Unit) => True) (fun u t => Wd D S0 ((lo, .inr (0, [.int (mc + nI 1), .ref ed, .int (nI (cn + 1))])) :: (ed, qa cs 1 n (va_up f cn (some v))) :: ws) t.heap) (SA S0)) 0 0 (SA S0) := by
  refine Met.ofW (cc := cJx4a65c_add_9ea2d) (maxL := 2) (ret := (some .boolean)) (by decide) rfl ?_
  intro p e s m args below meth c s₁ B hml hv
  obtain ⟨rfl, hW, hK, hE⟩ := hv
  have hx := B.exec
  have hb := B.bytes
  have hr := B.returns
  have hts := atoms_spec (ws := wsJx4a65c_add_9ea2d) B.pre
  have hown : s.vm.findClass RJx4a65c = some m.cls := findClass_of_methodNamed B.named
  have hlocks := B.notSynchronized
  have hRc : (headSpec wsJx4a65c_add_9ea2d ({ frames := 1, cells := 0, slots := 0, locals := 23 })).room.cells = 0 := rfl
  have hRs : (headSpec wsJx4a65c_add_9ea2d ({ frames := 1, cells := 0, slots := 0, locals := 23 })).room.slots = 0 := rfl
  have fl48 := hts (.fieldLink RJx4a65c 48 "java/util/ArrayList" "size" "I") (by decide +kernel)
  have fl63 := hts (.fieldLink RJx4a65c 63 "java/util/ArrayList" "modCount" "I") (by decide +kernel)
  have fl9 := hts (.fieldLink RJx4a65c 9 "java/util/ArrayList" "elementData" "[Ljava/lang/Object;") (by decide +kernel)
  have in0 : ∀ w ∈ u_ws RJx4a65c TJx4a65c 3, w ∈ wsJx4a65c_add_9ea2d := by decide +kernel
  have same_modCount := hts (.sameField "java/util/ArrayList" "java/util/AbstractList" "modCount" "I") (by decide +kernel)
  have hW : Wd D S0 ((lo, .inr (0, [.int mc, .ref ed, .int (nI cn)])) :: (ed, qa cs 1 n f) :: ws) s.heap := hW
  have hS0 : S0 ≤ s.heap.size := hW.2.2
  have hS : va_S (SA S0) s.heap s.heap [] := va_S.rf
  have hl := lv_entry ([.ref lo, .ref v]) (n := 2) (Nat.le_of_ble_eq_true rfl)
  rw [lg_entry_eq]
  generalize (lg_sl ([.ref lo, .ref v]) ++ List.replicate (2 - (lg_sl ([.ref lo, .ref v])).length) Slot.unset).toArray = ls at hl ⊢
  have hl : lv_has ls 2 [(0, .ref lo), (1, .ref v)] := hl
  refine lv_aload_n hx hb dJx4a65c_add_9ea2d_0 rfl (lv_at hl 0 rfl) ?_
  refine lv_dup hx hb dJx4a65c_add_9ea2d_1 rfl ?_
  refine z_get (ci := 0) (v := .int mc) (C := RJx4a65c) (T := TJx4a65c) (N := 3) hx hb hts in0 hown hK (hW.1 0 _ rfl) rfl 0 (by decide) fl63 (u_same same_modCount) rfl dJx4a65c_add_9ea2d_2 ?_
  refine lv_iconst (v := nI 1) hx hb dJx4a65c_add_9ea2d_5 (by decide) ?_
  refine lv_iadd hx hb dJx4a65c_add_9ea2d_6 ?_
  refine z_put (ty := .int) (ci := 0) (v := .int (mc + (nI 1))) (C := RJx4a65c) (T := TJx4a65c) (N := 3) hx hb hts in0 tyJx4a65c tyJx4a65c_ok nmJx4a65c hown hK hW hS 0 rfl rfl 0 (by decide) fl63 (u_same same_modCount) rfl (by decide +kernel) rfl rfl (Nat.le_of_ble_eq_true rfl) dJx4a65c_add_9ea2d_7 (fun H locs hW hS => ?_)
  have hW : Wd D S0 ((lo, .inr (0, [.int (mc + (nI 1)), .ref ed, .int (nI cn)])) :: (ed, qa cs 1 n f) :: ws) H := hW
  refine lv_aload_n hx hb dJx4a65c_add_9ea2d_10 rfl (lv_at hl 0 rfl) ?_
  refine lv_aload_n hx hb dJx4a65c_add_9ea2d_11 rfl (lv_at hl 1 rfl) ?_
  refine lv_aload_n hx hb dJx4a65c_add_9ea2d_12 rfl (lv_at hl 0 rfl) ?_
  refine z_get (ci := 0) (v := .ref ed) (C := RJx4a65c) (T := TJx4a65c) (N := 3) hx hb hts in0 hown hK (hW.1 0 _ rfl) rfl 1 (by decide) fl9 (fun _ h9 => h9) rfl dJx4a65c_add_9ea2d_13 ?_
  refine lv_aload_n hx hb dJx4a65c_add_9ea2d_16 rfl (lv_at hl 0 rfl) ?_
  refine z_get (ci := 0) (v := .int (nI cn)) (C := RJx4a65c) (T := TJx4a65c) (N := 3) hx hb hts in0 hown hK (hW.1 0 _ rfl) rfl 2 (by decide) fl48 (fun _ h9 => h9) rfl dJx4a65c_add_9ea2d_17 ?_
  refine z_cmV (va_runV (As := [.ref v, .ref ed, .int (nI cn)]) (rest := []) ⟨hx, hb, hml, hown, hts⟩ (c_Jx4a65c_add_72be8_R l D cs S0 ea mi sa ws lo ed n cn ci (mc + nI 1) f hcn hn hci v vs hv) (cwV 3 hts gJx4a65c_add_9ea2d_Jx4a65c_add_72be8 rfl rfl rfl (by decide +kernel) ⟨Nat.le_of_ble_eq_true rfl, Nat.le_of_ble_eq_true rfl⟩) ⟨zE_blind, z_recv hK (hW.1 0 _ rfl) rfl, (zE_pre hW hK hE hS)⟩ rfl rfl hl.1 rfl (lv_room (Nat.le_of_ble_eq_true rfl)) dJx4a65c_add_9ea2d_20 ⟨(by rw [hRc]; omega), (by rw [hRs]; omega)⟩) hS (fun u9 H locs hu hW hS => ?_)
  refine lv_iconst (v := nI 1) hx hb dJx4a65c_add_9ea2d_23 (by decide) ?_
  refine W.widen (k := 0) (n := 0) (by omega) (by omega) ?_
  exact W.zret (v := nI 1) hx hb hr rfl (fun t ht hW9 => ⟨⟨_, u9, rfl, trivial, (by show Wd D S0 _ _; rw [ht]; exact hW)⟩, hS.F ht⟩) (fun q9 h9 => hS.2.2 q9 h9) dJx4a65c_add_9ea2d_24

set_option maxHeartbeats 4000000 in
set_option maxRecDepth 100000 in
theorem c_Jx4a65c_add_9ea2d_A (l : Launch) (D : va_G) (cs : Nat → ClassId) (S0 : Nat) (ea mi : Nat) (sa : Nat → Nat) (ws : va_W) (lo ed n ci : Nat) (mc : Int32) (f : Nat → Option Nat) (hn4 : 4 ≤ n) (hn5 : n ≤ 100) (hci : ci = 1 ∨ ci = 2) (hel : ∀ i, i < n → ∀ y, f i = some y → ∃ vs, (y, (Sum.inr (ci, vs) : va_E)) ∈ ws) (v : Nat) (vs : List Value) (hv : (v, (Sum.inr (ci, vs) : va_E)) ∈ ws) : Met l yJx4a65c_add_9ea2d wsJx4a65c_add_9ea2d ({ frames := 6, cells := 1, slots := 400, locals := 150 }) (zE [.ref lo, .ref v] (fun H => Wd D S0 ((lo, .inr (0, [.int mc, .ref ed, .int (nI n)])) :: (ed, qa cs 1 n f) :: ws) H) D cs S0 ea mi sa) (va_Qi (fun _ (_ : Nat) => True) (fun u t => Wd D S0 ((u, qa cs 1 (n + n / 2) (va_up (va_cpy f (fun _ => none) 0 0 n) n (some v))) :: (lo, .inr (0, [.int (mc + nI 1), .ref u, .int (nI (n + 1))])) :: (ed, qa cs 1 n f) :: ws) t.heap) (SA S0)) 1 400 (SA S0) := by
  refine Met.ofW (cc := cJx4a65c_add_9ea2d) (maxL := 2) (ret := (some .boolean)) (by decide) rfl ?_
  intro p e s m args below meth c s₁ B hml hv
  obtain ⟨rfl, hW, hK, hE⟩ := hv
  have hx := B.exec
  have hb := B.bytes
  have hr := B.returns
  have hts := atoms_spec (ws := wsJx4a65c_add_9ea2d) B.pre
  have hown : s.vm.findClass RJx4a65c = some m.cls := findClass_of_methodNamed B.named
  have hlocks := B.notSynchronized
  have hRc : (headSpec wsJx4a65c_add_9ea2d ({ frames := 6, cells := 1, slots := 400, locals := 150 })).room.cells = 1 := rfl
  have hRs : (headSpec wsJx4a65c_add_9ea2d ({ frames := 6, cells := 1, slots := 400, locals := 150 })).room.slots = 400 := rfl
  have fl48 := hts (.fieldLink RJx4a65c 48 "java/util/ArrayList" "size" "I") (by decide +kernel)
  have fl63 := hts (.fieldLink RJx4a65c 63 "java/util/ArrayList" "modCount" "I") (by decide +kernel)
  have fl9 := hts (.fieldLink RJx4a65c 9 "java/util/ArrayList" "elementData" "[Ljava/lang/Object;") (by decide +kernel)
  have in0 : ∀ w ∈ u_ws RJx4a65c TJx4a65c 3, w ∈ wsJx4a65c_add_9ea2d := by decide +kernel
  have same_modCount := hts (.sameField "java/util/ArrayList" "java/util/AbstractList" "modCount" "I") (by decide +kernel)
  have hW : Wd D S0 ((lo, .inr (0, [.int mc, .ref ed, .int (nI n)])) :: (ed, qa cs 1 n f) :: ws) s.heap := hW
  have hS0 : S0 ≤ s.heap.size := hW.2.2
  have hS : va_S (SA S0) s.heap s.heap [] := va_S.rf
  have hl := lv_entry ([.ref lo, .ref v]) (n := 2) (Nat.le_of_ble_eq_true rfl)
  rw [lg_entry_eq]
  generalize (lg_sl ([.ref lo, .ref v]) ++ List.replicate (2 - (lg_sl ([.ref lo, .ref v])).length) Slot.unset).toArray = ls at hl ⊢
  have hl : lv_has ls 2 [(0, .ref lo), (1, .ref v)] := hl
  refine lv_aload_n hx hb dJx4a65c_add_9ea2d_0 rfl (lv_at hl 0 rfl) ?_
  refine lv_dup hx hb dJx4a65c_add_9ea2d_1 rfl ?_
  refine z_get (ci := 0) (v := .int mc) (C := RJx4a65c) (T := TJx4a65c) (N := 3) hx hb hts in0 hown hK (hW.1 0 _ rfl) rfl 0 (by decide) fl63 (u_same same_modCount) rfl dJx4a65c_add_9ea2d_2 ?_
  refine lv_iconst (v := nI 1) hx hb dJx4a65c_add_9ea2d_5 (by decide) ?_
  refine lv_iadd hx hb dJx4a65c_add_9ea2d_6 ?_
  refine z_put (ty := .int) (ci := 0) (v := .int (mc + (nI 1))) (C := RJx4a65c) (T := TJx4a65c) (N := 3) hx hb hts in0 tyJx4a65c tyJx4a65c_ok nmJx4a65c hown hK hW hS 0 rfl rfl 0 (by decide) fl63 (u_same same_modCount) rfl (by decide +kernel) rfl rfl (Nat.le_of_ble_eq_true rfl) dJx4a65c_add_9ea2d_7 (fun H locs hW hS => ?_)
  have hW : Wd D S0 ((lo, .inr (0, [.int (mc + (nI 1)), .ref ed, .int (nI n)])) :: (ed, qa cs 1 n f) :: ws) H := hW
  refine lv_aload_n hx hb dJx4a65c_add_9ea2d_10 rfl (lv_at hl 0 rfl) ?_
  refine lv_aload_n hx hb dJx4a65c_add_9ea2d_11 rfl (lv_at hl 1 rfl) ?_
  refine lv_aload_n hx hb dJx4a65c_add_9ea2d_12 rfl (lv_at hl 0 rfl) ?_
  refine z_get (ci := 0) (v := .ref ed) (C := RJx4a65c) (T := TJx4a65c) (N := 3) hx hb hts in0 hown hK (hW.1 0 _ rfl) rfl 1 (by decide) fl9 (fun _ h9 => h9) rfl dJx4a65c_add_9ea2d_13 ?_
  refine lv_aload_n hx hb dJx4a65c_add_9ea2d_16 rfl (lv_at hl 0 rfl) ?_
  refine z_get (ci := 0) (v := .int (nI n)) (C := RJx4a65c) (T := TJx4a65c) (N := 3) hx hb hts in0 hown hK (hW.1 0 _ rfl) rfl 2 (by decide) fl48 (fun _ h9 => h9) rfl dJx4a65c_add_9ea2d_17 ?_
  refine z_cmV (va_runV (As := [.ref v, .ref ed, .int (nI n)]) (rest := []) ⟨hx, hb, hml, hown, hts⟩ (c_Jx4a65c_add_72be8_A l D cs S0 ea mi sa ws lo ed n ci (mc + nI 1) f hn4 hn5 hci hel v vs hv) (cwV 3 hts gJx4a65c_add_9ea2d_Jx4a65c_add_72be8 rfl rfl rfl (by decide +kernel) ⟨Nat.le_of_ble_eq_true rfl, Nat.le_of_ble_eq_true rfl⟩) ⟨zE_blind, z_recv hK (hW.1 0 _ rfl) rfl, (zE_pre hW hK hE hS)⟩ rfl rfl hl.1 rfl (lv_room (Nat.le_of_ble_eq_true rfl)) dJx4a65c_add_9ea2d_20 ⟨(by rw [hRc]; omega), (by rw [hRs]; omega)⟩) hS (fun u9 H locs hu hW hS => ?_)
  refine lv_iconst (v := nI 1) hx hb dJx4a65c_add_9ea2d_23 (by decide) ?_
  refine W.widen (k := 1) (n := 400) (by omega) (by omega) ?_
  exact W.zret (v := nI 1) hx hb hr rfl (fun t ht hW9 => ⟨⟨_, u9, rfl, trivial, (by show Wd D S0 _ _; rw [ht]; exact hW)⟩, hS.F ht⟩) (fun q9 h9 => hS.2.2 q9 h9) dJx4a65c_add_9ea2d_24

set_option maxHeartbeats 4000000 in
set_option maxRecDepth 100000 in
theorem c_Jx4a65c_add_9ea2d_B (l : Launch) (D : va_G) (cs : Nat → ClassId) (S0 : Nat) (ea mi : Nat) (sa : Nat → Nat) (ws : va_W) (lo ci : Nat) (mc : Int32) (hci : ci = 1 ∨ ci = 2) (v : Nat) (vs : List Value) (hv : (v, (Sum.inr (ci, vs) : va_E)) ∈ ws) : Met l yJx4a65c_add_9ea2d wsJx4a65c_add_9ea2d ({ frames := 4, cells := 1, slots := 10, locals := 106 }) (zE [.ref lo, .ref v] (fun H => Wd D S0 ((lo, .inr (0, [.int mc, .ref ea, .int (nI 0)])) :: ws) H) D cs S0 ea mi sa) (va_Qi (fun _ (_ : Nat) => True) (fun u t => Wd D S0 ((lo, .inr (0, [.int (mc + nI 1), .ref u, .int (nI 1)])) :: (u, qa cs 1 10 (va_up (fun _ => none) 0 (some v))) :: ws) t.heap) (SA S0)) 1 10 (SA S0) := by
  refine Met.ofW (cc := cJx4a65c_add_9ea2d) (maxL := 2) (ret := (some .boolean)) (by decide) rfl ?_
  intro p e s m args below meth c s₁ B hml hv
  obtain ⟨rfl, hW, hK, hE⟩ := hv
  have hx := B.exec
  have hb := B.bytes
  have hr := B.returns
  have hts := atoms_spec (ws := wsJx4a65c_add_9ea2d) B.pre
  have hown : s.vm.findClass RJx4a65c = some m.cls := findClass_of_methodNamed B.named
  have hlocks := B.notSynchronized
  have hRc : (headSpec wsJx4a65c_add_9ea2d ({ frames := 4, cells := 1, slots := 10, locals := 106 })).room.cells = 1 := rfl
  have hRs : (headSpec wsJx4a65c_add_9ea2d ({ frames := 4, cells := 1, slots := 10, locals := 106 })).room.slots = 10 := rfl
  have fl48 := hts (.fieldLink RJx4a65c 48 "java/util/ArrayList" "size" "I") (by decide +kernel)
  have fl63 := hts (.fieldLink RJx4a65c 63 "java/util/ArrayList" "modCount" "I") (by decide +kernel)
  have fl9 := hts (.fieldLink RJx4a65c 9 "java/util/ArrayList" "elementData" "[Ljava/lang/Object;") (by decide +kernel)
  have in0 : ∀ w ∈ u_ws RJx4a65c TJx4a65c 3, w ∈ wsJx4a65c_add_9ea2d := by decide +kernel
  have same_modCount := hts (.sameField "java/util/ArrayList" "java/util/AbstractList" "modCount" "I") (by decide +kernel)
  have hW : Wd D S0 ((lo, .inr (0, [.int mc, .ref ea, .int (nI 0)])) :: ws) s.heap := hW
  have hS0 : S0 ≤ s.heap.size := hW.2.2
  have hS : va_S (SA S0) s.heap s.heap [] := va_S.rf
  have hl := lv_entry ([.ref lo, .ref v]) (n := 2) (Nat.le_of_ble_eq_true rfl)
  rw [lg_entry_eq]
  generalize (lg_sl ([.ref lo, .ref v]) ++ List.replicate (2 - (lg_sl ([.ref lo, .ref v])).length) Slot.unset).toArray = ls at hl ⊢
  have hl : lv_has ls 2 [(0, .ref lo), (1, .ref v)] := hl
  refine lv_aload_n hx hb dJx4a65c_add_9ea2d_0 rfl (lv_at hl 0 rfl) ?_
  refine lv_dup hx hb dJx4a65c_add_9ea2d_1 rfl ?_
  refine z_get (ci := 0) (v := .int mc) (C := RJx4a65c) (T := TJx4a65c) (N := 3) hx hb hts in0 hown hK (hW.1 0 _ rfl) rfl 0 (by decide) fl63 (u_same same_modCount) rfl dJx4a65c_add_9ea2d_2 ?_
  refine lv_iconst (v := nI 1) hx hb dJx4a65c_add_9ea2d_5 (by decide) ?_
  refine lv_iadd hx hb dJx4a65c_add_9ea2d_6 ?_
  refine z_put (ty := .int) (ci := 0) (v := .int (mc + (nI 1))) (C := RJx4a65c) (T := TJx4a65c) (N := 3) hx hb hts in0 tyJx4a65c tyJx4a65c_ok nmJx4a65c hown hK hW hS 0 rfl rfl 0 (by decide) fl63 (u_same same_modCount) rfl (by decide +kernel) rfl rfl (Nat.le_of_ble_eq_true rfl) dJx4a65c_add_9ea2d_7 (fun H locs hW hS => ?_)
  have hW : Wd D S0 ((lo, .inr (0, [.int (mc + (nI 1)), .ref ea, .int (nI 0)])) :: ws) H := hW
  refine lv_aload_n hx hb dJx4a65c_add_9ea2d_10 rfl (lv_at hl 0 rfl) ?_
  refine lv_aload_n hx hb dJx4a65c_add_9ea2d_11 rfl (lv_at hl 1 rfl) ?_
  refine lv_aload_n hx hb dJx4a65c_add_9ea2d_12 rfl (lv_at hl 0 rfl) ?_
  refine z_get (ci := 0) (v := .ref ea) (C := RJx4a65c) (T := TJx4a65c) (N := 3) hx hb hts in0 hown hK (hW.1 0 _ rfl) rfl 1 (by decide) fl9 (fun _ h9 => h9) rfl dJx4a65c_add_9ea2d_13 ?_
  refine lv_aload_n hx hb dJx4a65c_add_9ea2d_16 rfl (lv_at hl 0 rfl) ?_
  refine z_get (ci := 0) (v := .int (nI 0)) (C := RJx4a65c) (T := TJx4a65c) (N := 3) hx hb hts in0 hown hK (hW.1 0 _ rfl) rfl 2 (by decide) fl48 (fun _ h9 => h9) rfl dJx4a65c_add_9ea2d_17 ?_
  refine z_cmV (va_runV (As := [.ref v, .ref ea, .int (nI 0)]) (rest := []) ⟨hx, hb, hml, hown, hts⟩ (c_Jx4a65c_add_72be8_B l D cs S0 ea mi sa ws lo ci (mc + nI 1) hci v vs hv) (cwV 3 hts gJx4a65c_add_9ea2d_Jx4a65c_add_72be8 rfl rfl rfl (by decide +kernel) ⟨Nat.le_of_ble_eq_true rfl, Nat.le_of_ble_eq_true rfl⟩) ⟨zE_blind, z_recv hK (hW.1 0 _ rfl) rfl, (zE_pre hW hK hE hS)⟩ rfl rfl hl.1 rfl (lv_room (Nat.le_of_ble_eq_true rfl)) dJx4a65c_add_9ea2d_20 ⟨(by rw [hRc]; omega), (by rw [hRs]; omega)⟩) hS (fun u9 H locs hu hW hS => ?_)
  refine lv_iconst (v := nI 1) hx hb dJx4a65c_add_9ea2d_23 (by decide) ?_
  refine W.widen (k := 1) (n := 10) (by omega) (by omega) ?_
  exact W.zret (v := nI 1) hx hb hr rfl (fun t ht hW9 => ⟨⟨_, u9, rfl, trivial, (by show Wd D S0 _ _; rw [ht]; exact hW)⟩, hS.F ht⟩) (fun q9 h9 => hS.2.2 q9 h9) dJx4a65c_add_9ea2d_24

set_option maxHeartbeats 4000000 in
set_option maxRecDepth 100000 in
theorem c_Jx4a65c_fastRemove_b59b0 (l : Launch) (D : va_G) (cs : Nat → ClassId) (S0 : Nat) (ea mi : Nat) (sa : Nat → Nat) (ws : va_W) (lo ed n cn ci i : Nat) (mc : Int32) (f : Nat → Option Nat) (hi : i < cn) (hcn : cn ≤ n) (hn : n ≤ 100) (hci : ci = 1 ∨ ci = 2) (hel : ∀ i, i < cn → ∀ y, f i = some y → ∃ vs, (y, (Sum.inr (ci, vs) : va_E)) ∈ ws) : Met l yJx4a65c_fastRemove_b59b0 wsJx4a65c_fastRemove_b59b0 ({ frames := 1, cells := 0, slots := 0, locals := 40 }) (zE [.ref lo, .ref ed, .int (nI i)] (fun H => Wd D S0 ((lo, .inr (0, [.int mc, .ref ed, .int (nI cn)])) :: (ed, qa cs 1 n f) :: ws) H) D cs S0 ea mi sa) (va_Qv (fun _ : Unit => True) (fun _ t => Wd D S0 ((lo, .inr (0, [.int (mc + nI 1), .ref ed, .int (nI (cn - 1))])) :: (ed, qa cs 1 n (rmF f i cn)) :: ws) t.heap) (SA S0)) 0 0 (SA S0) := by
  refine Met.ofW (cc := cJx4a65c_fastRemove_b59b0) (maxL := 4) (ret := none) (by decide) rfl ?_
  intro p e s m args below meth c s₁ B hml hv
  obtain ⟨rfl, hW, hK, hE⟩ := hv
  have hx := B.exec
  have hb := B.bytes
  have hr := B.returns
  have hts := atoms_spec (ws := wsJx4a65c_fastRemove_b59b0) B.pre
  have hown : s.vm.findClass RJx4a65c = some m.cls := findClass_of_methodNamed B.named
  have hlocks := B.notSynchronized
  have hRc : (headSpec wsJx4a65c_fastRemove_b59b0 ({ frames := 1, cells := 0, slots := 0, locals := 40 })).room.cells = 0 := rfl
  have hRs : (headSpec wsJx4a65c_fastRemove_b59b0 ({ frames := 1, cells := 0, slots := 0, locals := 40 })).room.slots = 0 := rfl
  have fl48 := hts (.fieldLink RJx4a65c 48 "java/util/ArrayList" "size" "I") (by decide +kernel)
  have fl63 := hts (.fieldLink RJx4a65c 63 "java/util/ArrayList" "modCount" "I") (by decide +kernel)
  have in0 : ∀ w ∈ u_ws RJx4a65c TJx4a65c 3, w ∈ wsJx4a65c_fastRemove_b59b0 := by decide +kernel
  have same_modCount := hts (.sameField "java/util/ArrayList" "java/util/AbstractList" "modCount" "I") (by decide +kernel)
  have hW : Wd D S0 ((lo, .inr (0, [.int mc, .ref ed, .int (nI cn)])) :: (ed, qa cs 1 n f) :: ws) s.heap := hW
  have hS0 : S0 ≤ s.heap.size := hW.2.2
  have hS : va_S (SA S0) s.heap s.heap [] := va_S.rf
  have hl := lv_entry ([.ref lo, .ref ed, .int (nI i)]) (n := 4) (Nat.le_of_ble_eq_true rfl)
  rw [lg_entry_eq]
  generalize (lg_sl ([.ref lo, .ref ed, .int (nI i)]) ++ List.replicate (4 - (lg_sl ([.ref lo, .ref ed, .int (nI i)])).length) Slot.unset).toArray = ls at hl ⊢
  have hl : lv_has ls 4 [(0, .ref lo), (1, .ref ed), (2, .int (nI i))] := hl
  refine lv_aload_n hx hb dJx4a65c_fastRemove_b59b0_0 rfl (lv_at hl 0 rfl) ?_
  refine lv_dup hx hb dJx4a65c_fastRemove_b59b0_1 rfl ?_
  refine z_get (ci := 0) (v := .int mc) (C := RJx4a65c) (T := TJx4a65c) (N := 3) hx hb hts in0 hown hK (hW.1 0 _ rfl) rfl 0 (by decide) fl63 (u_same same_modCount) rfl dJx4a65c_fastRemove_b59b0_2 ?_
  refine lv_iconst (v := nI 1) hx hb dJx4a65c_fastRemove_b59b0_5 (by decide) ?_
  refine lv_iadd hx hb dJx4a65c_fastRemove_b59b0_6 ?_
  refine z_put (ty := .int) (ci := 0) (v := .int (mc + (nI 1))) (C := RJx4a65c) (T := TJx4a65c) (N := 3) hx hb hts in0 tyJx4a65c tyJx4a65c_ok nmJx4a65c hown hK hW hS 0 rfl rfl 0 (by decide) fl63 (u_same same_modCount) rfl (by decide +kernel) rfl rfl (Nat.le_of_ble_eq_true rfl) dJx4a65c_fastRemove_b59b0_7 (fun H locs hW hS => ?_)
  have hW : Wd D S0 ((lo, .inr (0, [.int (mc + (nI 1)), .ref ed, .int (nI cn)])) :: (ed, qa cs 1 n f) :: ws) H := hW
  refine lv_aload_n hx hb dJx4a65c_fastRemove_b59b0_10 rfl (lv_at hl 0 rfl) ?_
  refine z_get (ci := 0) (v := .int (nI cn)) (C := RJx4a65c) (T := TJx4a65c) (N := 3) hx hb hts in0 hown hK (hW.1 0 _ rfl) rfl 2 (by decide) fl48 (fun _ h9 => h9) rfl dJx4a65c_fastRemove_b59b0_11 ?_
  refine lv_iconst (v := nI 1) hx hb dJx4a65c_fastRemove_b59b0_14 (by decide) ?_
  refine lv_isub hx hb dJx4a65c_fastRemove_b59b0_15 ?_
  refine zti (pk_sub (by omega)) (y := nI (cn - 1)) ?_
  refine lv_dup hx hb dJx4a65c_fastRemove_b59b0_16 rfl ?_
  refine lv_istore_n (lv' := [(3, .int (nI (cn - 1))), (0, .ref lo), (1, .ref ed), (2, .int (nI i))]) hx hb dJx4a65c_fastRemove_b59b0_17 rfl hl (by decide) rfl (fun ls hl => ?_)
  refine lv_iload_n hx hb dJx4a65c_fastRemove_b59b0_18 rfl (lv_at hl 3 rfl) ?_
  refine z_icmp_le (tgt := 34) hx hb (by omega) (by omega) dJx4a65c_fastRemove_b59b0_19 (by decide) (fun hc19 => ?_) (fun hc19 => ?_)
  · skip
    have hc19 : cn - 1 ≤ i := hc19
    refine lv_aload_n hx hb dJx4a65c_fastRemove_b59b0_34 rfl (lv_at hl 2 rfl) ?_
    refine lv_aload_n hx hb dJx4a65c_fastRemove_b59b0_35 rfl (lv_at hl 1 rfl) ?_
    refine lv_iload_n hx hb dJx4a65c_fastRemove_b59b0_36 rfl (lv_at hl 0 rfl) ?_
    refine lv_dup_x1 hx hb dJx4a65c_fastRemove_b59b0_37 rfl rfl ?_
    refine z_put (ty := .int) (ci := 0) (v := .int (nI (cn - 1))) (C := RJx4a65c) (T := TJx4a65c) (N := 3) hx hb hts in0 tyJx4a65c tyJx4a65c_ok nmJx4a65c hown hK hW hS 0 rfl rfl 2 (by decide) fl48 (fun _ h9 => h9) rfl (by decide +kernel) rfl rfl (Nat.le_of_ble_eq_true rfl) dJx4a65c_fastRemove_b59b0_38 (fun H locs hW hS => ?_)
    have hW : Wd D S0 ((lo, .inr (0, [.int (mc + (nI 1)), .ref ed, .int (nI (cn - 1))])) :: (ed, qa cs 1 n f) :: ws) H := hW
    refine lv_null hx hb dJx4a65c_fastRemove_b59b0_41 ?_
    refine z_astN (k := cn - 1) hx hb hK hW hS 1 rfl (by omega) (by omega) dJx4a65c_fastRemove_b59b0_42 (fun H locs hW hS => ?_)
    have hW : Wd D S0 ((lo, .inr (0, [.int (mc + (nI 1)), .ref ed, .int (nI (cn - 1))])) :: (ed, qa cs 1 n (va_up f (cn - 1) none)) :: ws) H := hW
    have hW : Wd D S0 ((lo, .inr (0, [.int (mc + (nI 1)), .ref ed, .int (nI (cn - 1))])) :: (ed, qa cs 1 n (rmF f i cn)) :: ws) H := by unfold rmF; rw [if_neg (show ¬ i + 1 < cn by omega)]; exact hW
    refine W.widen (k := 0) (n := 0) (by omega) (by omega) ?_
    exact W.vret hx hb hr (fun t ht hW9 => ⟨⟨(), rfl, trivial, (by show Wd D S0 _ _; rw [ht]; exact hW)⟩, hS.F ht⟩) (fun q9 h9 => hS.2.2 q9 h9) dJx4a65c_fastRemove_b59b0_43
  · skip
    have hc19 : i < cn - 1 := hc19
    refine lv_aload_n hx hb dJx4a65c_fastRemove_b59b0_22 rfl (lv_at hl 2 rfl) ?_
    refine lv_iload_n hx hb dJx4a65c_fastRemove_b59b0_23 rfl (lv_at hl 3 rfl) ?_
    refine lv_iconst (v := nI 1) hx hb dJx4a65c_fastRemove_b59b0_24 (by decide) ?_
    refine lv_iadd hx hb dJx4a65c_fastRemove_b59b0_25 ?_
    refine zti (nI_add _ _) (y := nI (i + 1)) ?_
    refine lv_aload_n hx hb dJx4a65c_fastRemove_b59b0_26 rfl (lv_at hl 2 rfl) ?_
    refine lv_iload_n hx hb dJx4a65c_fastRemove_b59b0_27 rfl (lv_at hl 3 rfl) ?_
    refine lv_iload_n hx hb dJx4a65c_fastRemove_b59b0_28 rfl (lv_at hl 0 rfl) ?_
    refine lv_iload_n hx hb dJx4a65c_fastRemove_b59b0_29 rfl (lv_at hl 3 rfl) ?_
    refine lv_isub hx hb dJx4a65c_fastRemove_b59b0_30 ?_
    refine zti (pk_sub (by omega)) (y := nI ((cn - 1) - i)) ?_
    refine z_copyq (k := cn - 1 - i) (sp := i + 1) (dp := i) hx hb (hml.trans hl.1.symm) hown (hts (.methodLink RJx4a65c 112 arraycopyName) (by decide +kernel)) (hts (.native arraycopyName) (by decide +kernel)) (hts (.static arraycopyName) (by decide +kernel)) (hts (.initialized "java/lang/System") (by decide +kernel)) hE.2.2.2.2 hK hW hS 1 1 hci rfl rfl (by omega) (by omega) (by omega) (by omega) (fun j hj y hy => by obtain ⟨vs, hv9⟩ := hel (i + 1 + j) (by omega) y hy; exact ⟨vs, List.mem_cons_of_mem _ (List.mem_cons_of_mem _ hv9)⟩) (Nat.le_of_ble_eq_true rfl) (Nat.le_of_ble_eq_true rfl) dJx4a65c_fastRemove_b59b0_31 (fun H locs hW hS => ?_)
    have hW : Wd D S0 ((lo, .inr (0, [.int (mc + (nI 1)), .ref ed, .int (nI cn)])) :: (ed, qa cs 1 n (va_cpy f f (i + 1) i (cn - 1 - i))) :: ws) H := hW
    refine lv_aload_n hx hb dJx4a65c_fastRemove_b59b0_34 rfl (lv_at hl 2 rfl) ?_
    refine lv_aload_n hx hb dJx4a65c_fastRemove_b59b0_35 rfl (lv_at hl 1 rfl) ?_
    refine lv_iload_n hx hb dJx4a65c_fastRemove_b59b0_36 rfl (lv_at hl 0 rfl) ?_
    refine lv_dup_x1 hx hb dJx4a65c_fastRemove_b59b0_37 rfl rfl ?_
    refine z_put (ty := .int) (ci := 0) (v := .int (nI (cn - 1))) (C := RJx4a65c) (T := TJx4a65c) (N := 3) hx hb hts in0 tyJx4a65c tyJx4a65c_ok nmJx4a65c hown hK hW hS 0 rfl rfl 2 (by decide) fl48 (fun _ h9 => h9) rfl (by decide +kernel) rfl rfl (Nat.le_of_ble_eq_true rfl) dJx4a65c_fastRemove_b59b0_38 (fun H locs hW hS => ?_)
    have hW : Wd D S0 ((lo, .inr (0, [.int (mc + (nI 1)), .ref ed, .int (nI (cn - 1))])) :: (ed, qa cs 1 n (va_cpy f f (i + 1) i (cn - 1 - i))) :: ws) H := hW
    refine lv_null hx hb dJx4a65c_fastRemove_b59b0_41 ?_
    refine z_astN (k := cn - 1) hx hb hK hW hS 1 rfl (by omega) (by omega) dJx4a65c_fastRemove_b59b0_42 (fun H locs hW hS => ?_)
    have hW : Wd D S0 ((lo, .inr (0, [.int (mc + (nI 1)), .ref ed, .int (nI (cn - 1))])) :: (ed, qa cs 1 n (va_up (va_cpy f f (i + 1) i (cn - 1 - i)) (cn - 1) none)) :: ws) H := hW
    have hW : Wd D S0 ((lo, .inr (0, [.int (mc + (nI 1)), .ref ed, .int (nI (cn - 1))])) :: (ed, qa cs 1 n (rmF f i cn)) :: ws) H := by unfold rmF; rw [if_pos (show i + 1 < cn by omega)]; exact hW
    refine W.widen (k := 0) (n := 0) (by omega) (by omega) ?_
    exact W.vret hx hb hr (fun t ht hW9 => ⟨⟨(), rfl, trivial, (by show Wd D S0 _ _; rw [ht]; exact hW)⟩, hS.F ht⟩) (fun q9 h9 => hS.2.2 q9 h9) dJx4a65c_fastRemove_b59b0_43

set_option maxHeartbeats 4000000 in
set_option maxRecDepth 100000 in
theorem c_Jx4a65c_remove_915e3 (l : Launch) (D : va_G) (cs : Nat → ClassId) (S0 : Nat) (ea mi : Nat) (sa : Nat → Nat) (ws : va_W) (lo ed n cn ci i : Nat) (mc : Int32) (f : Nat → Option Nat) (hi : i < cn) (hcn : cn ≤ n) (hn : n ≤ 100) (hci : ci = 1 ∨ ci = 2) (hel : ∀ i, i < cn → ∀ y, f i = some y → ∃ vs, (y, (Sum.inr (ci, vs) : va_E)) ∈ ws) (y : Nat) (hy : f i = some y) : Met l yJx4a65c_remove_915e3 wsJx4a65c_remove_915e3 ({ frames := 2, cells := 0, slots := 0, locals := 63 }) (zE [.ref lo, .int (nI i)] (fun H => Wd D S0 ((lo, .inr (0, [.int mc, .ref ed, .int (nI cn)])) :: (ed, qa cs 1 n f) :: ws) H) D cs S0 ea mi sa) (va_Qr (fun _ : Unit => True) (fun _ ra t => Wd D S0 ((lo, .inr (0, [.int (mc + nI 1), .ref ed, .int (nI (cn - 1))])) :: (ed, qa cs 1 n (rmF f i cn)) :: ws) t.heap ∧ ra = y) (SA S0)) 0 0 (SA S0) := by
  refine Met.ofW (cc := cJx4a65c_remove_915e3) (maxL := 4) (ret := (some (.object "java/lang/Object"))) (by decide) rfl ?_
  intro p e s m args below meth c s₁ B hml hv
  obtain ⟨rfl, hW, hK, hE⟩ := hv
  have hx := B.exec
  have hb := B.bytes
  have hr := B.returns
  have hts := atoms_spec (ws := wsJx4a65c_remove_915e3) B.pre
  have hown : s.vm.findClass RJx4a65c = some m.cls := findClass_of_methodNamed B.named
  have hlocks := B.notSynchronized
  have hRc : (headSpec wsJx4a65c_remove_915e3 ({ frames := 2, cells := 0, slots := 0, locals := 63 })).room.cells = 0 := rfl
  have hRs : (headSpec wsJx4a65c_remove_915e3 ({ frames := 2, cells := 0, slots := 0, locals := 63 })).room.slots = 0 := rfl
  have fl48 := hts (.fieldLink RJx4a65c 48 "java/util/ArrayList" "size" "I") (by decide +kernel)
  have fl9 := hts (.fieldLink RJx4a65c 9 "java/util/ArrayList" "elementData" "[Ljava/lang/Object;") (by decide +kernel)
  have in0 : ∀ w ∈ u_ws RJx4a65c TJx4a65c 3, w ∈ wsJx4a65c_remove_915e3 := by decide +kernel
  have hW : Wd D S0 ((lo, .inr (0, [.int mc, .ref ed, .int (nI cn)])) :: (ed, qa cs 1 n f) :: ws) s.heap := hW
  have hS0 : S0 ≤ s.heap.size := hW.2.2
  have hS : va_S (SA S0) s.heap s.heap [] := va_S.rf
  have hl := lv_entry ([.ref lo, .int (nI i)]) (n := 4) (Nat.le_of_ble_eq_true rfl)
  rw [lg_entry_eq]
  generalize (lg_sl ([.ref lo, .int (nI i)]) ++ List.replicate (4 - (lg_sl ([.ref lo, .int (nI i)])).length) Slot.unset).toArray = ls at hl ⊢
  have hl : lv_has ls 4 [(0, .ref lo), (1, .int (nI i))] := hl
  refine lv_iload_n hx hb dJx4a65c_remove_915e3_0 rfl (lv_at hl 1 rfl) ?_
  refine lv_aload_n hx hb dJx4a65c_remove_915e3_1 rfl (lv_at hl 0 rfl) ?_
  refine z_get (ci := 0) (v := .int (nI cn)) (C := RJx4a65c) (T := TJx4a65c) (N := 3) hx hb hts in0 hown hK (hW.1 0 _ rfl) rfl 2 (by decide) fl48 (fun _ h9 => h9) rfl dJx4a65c_remove_915e3_2 ?_
  refine z_csS (As := [.int (nI i), .int (nI cn)]) (rest := []) ⟨hx, hb, hml, hown, hts⟩ (c_J15_checkIndex_7cf53 l D cs i cn hi (by omega)) (va_cwS 2 hts gJx4a65c_remove_915e3_J15_checkIndex_7cf53 rfl rfl rfl (by decide +kernel) ⟨Nat.le_of_ble_eq_true rfl, Nat.le_of_ble_eq_true rfl⟩) trivial hK rfl hl.1 rfl (Nat.le_of_ble_eq_true rfl) dJx4a65c_remove_915e3_5 ⟨(by rw [hRc]; omega), (by rw [hRs]; omega)⟩ (fun r hq9 => ?_)
  have hq9 : r = nI i := hq9
  subst hq9
  refine lv_pop hx hb dJx4a65c_remove_915e3_8 rfl ?_
  refine lv_aload_n hx hb dJx4a65c_remove_915e3_9 rfl (lv_at hl 0 rfl) ?_
  refine z_get (ci := 0) (v := .ref ed) (C := RJx4a65c) (T := TJx4a65c) (N := 3) hx hb hts in0 hown hK (hW.1 0 _ rfl) rfl 1 (by decide) fl9 (fun _ h9 => h9) rfl dJx4a65c_remove_915e3_10 ?_
  refine lv_astore_n (lv' := [(2, .ref ed), (0, .ref lo), (1, .int (nI i))]) hx hb dJx4a65c_remove_915e3_13 rfl hl (by decide) rfl (fun ls hl => ?_)
  refine lv_aload_n hx hb dJx4a65c_remove_915e3_14 rfl (lv_at hl 0 rfl) ?_
  refine lv_iload_n hx hb dJx4a65c_remove_915e3_15 rfl (lv_at hl 2 rfl) ?_
  refine z_aald (k := i) (y := y) (t0 := 1) hx hb hK (hW.1 1 _ rfl) rfl rfl (by omega) (by omega) hy dJx4a65c_remove_915e3_16 ?_
  refine lv_astore_n (lv' := [(3, .ref y), (2, .ref ed), (0, .ref lo), (1, .int (nI i))]) hx hb dJx4a65c_remove_915e3_17 rfl hl (by decide) rfl (fun ls hl => ?_)
  refine lv_aload_n hx hb dJx4a65c_remove_915e3_18 rfl (lv_at hl 2 rfl) ?_
  refine lv_aload_n hx hb dJx4a65c_remove_915e3_19 rfl (lv_at hl 1 rfl) ?_
  refine lv_iload_n hx hb dJx4a65c_remove_915e3_20 rfl (lv_at hl 3 rfl) ?_
  refine z_cmV (va_runV (As := [.ref ed, .int (nI i)]) (rest := []) ⟨hx, hb, hml, hown, hts⟩ (c_Jx4a65c_fastRemove_b59b0 l D cs S0 ea mi sa ws lo ed n cn ci i mc f hi hcn hn hci hel) (cwV 2 hts gJx4a65c_remove_915e3_Jx4a65c_fastRemove_b59b0 rfl rfl rfl (by decide +kernel) ⟨Nat.le_of_ble_eq_true rfl, Nat.le_of_ble_eq_true rfl⟩) ⟨zE_blind, z_recv hK (hW.1 0 _ rfl) rfl, (zE_pre hW hK hE hS)⟩ rfl rfl hl.1 rfl (lv_room (Nat.le_of_ble_eq_true rfl)) dJx4a65c_remove_915e3_21 ⟨(by rw [hRc]; omega), (by rw [hRs]; omega)⟩) hS (fun u9 H locs hu hW hS => ?_)
  have hW : Wd D S0 ((lo, .inr (0, [.int (mc + nI 1), .ref ed, .int (nI (cn - 1))])) :: (ed, qa cs 1 n (rmF f i cn)) :: ws) H := hW
  refine lv_aload_n hx hb dJx4a65c_remove_915e3_24 rfl (lv_at hl 0 rfl) ?_
  refine W.widen (k := 0) (n := 0) (by omega) (by omega) ?_
  exact W.aret (v := (.ref y)) hx hb hr (by first | exact Or.inl ⟨_, rfl⟩ | exact Or.inr ⟨_, rfl⟩) (Or.inr ⟨_, rfl⟩) (fun t ht hW9 => ⟨⟨(), _, rfl, trivial, ⟨by show Wd D S0 _ _; rw [ht]; exact hW, rfl⟩⟩, hS.F ht⟩) (fun q9 h9 => hS.2.2 q9 h9) dJx4a65c_remove_915e3_25

