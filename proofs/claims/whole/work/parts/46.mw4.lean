/-! the model: made; difference, compose, the least way -/
theorem blk_st {B : Nat → Option Nat → Option Nat} {size p b : Nat} {last : Option Nat} (h2 : 0 < size) (hs : stS B size p = (last, 0)) (hb : B p last = some b) : ∀ k, k < size → difO B size (p + k) = nI (b * size + k) ∧ stS B size (p + k + 1) = (some b, size - (k + 1))
  | 0, _ => by
    obtain ⟨h3, h4⟩ := md_b h2 hs hb
    have e : (b + 1) * size = b * size + size := Nat.succ_mul b size
    exact ⟨h3.trans (congrArg nI (by omega)), h4⟩
  | k + 1, hk => by
    obtain ⟨-, h4⟩ := blk_st h2 hs hb k (by omega)
    obtain ⟨h5, h6⟩ := md_c (p := p + k + 1) h4 (by omega)
    have e : (b + 1) * size = b * size + size := Nat.succ_mul b size
    exact ⟨h5.trans (congrArg nI (by omega)), h6.trans (by rw [show size - (k + 1) - 1 = size - (k + 1 + 1) by omega])⟩
theorem blk_en {B : Nat → Option Nat → Option Nat} {size p b : Nat} {last : Option Nat} (h2 : 0 < size) (hs : stS B size p = (last, 0)) (hb : B p last = some b) : stS B size (p + size) = (some b, 0) := by
  have h := (blk_st h2 hs hb (size - 1) (by omega)).2
  rw [show p + (size - 1) + 1 = p + size by omega, show size - (size - 1 + 1) = 0 by omega] at h
  exact h

def aoI (U : State) : Prop := (Cond.arrayOver (.array .int)).before #[] U = true
theorem aoI_of {A : Array Value} {U : State} (h : (Cond.arrayOver (.array .int)).before A U = true) : aoI U := h
theorem aoI_use {A : Array Value} {U : State} (h : aoI U) : (Cond.arrayOver (.array .int)).before A U = true := h
theorem aoI_warm {s U : State} (hW : s.vm.Alike U.vm) (hZ : aoI s) : aoI U := (Cond.arrayOver_setVmC (args := #[]) (s := s) hW (.array .int)).trans hZ
def zW (As : List Value) (PH : Heap → Prop) (D : va_G) (cs : Nat → ClassId) : Array Value → State → Prop := fun v U => zP As PH D cs v U ∧ aoI U
theorem zW_blind {As : List Value} {PH : Heap → Prop} {D : va_G} {cs : Nat → ClassId} : FrameBlind (zW As PH D cs) := fun a U g mk h => ⟨zP_blind a U g mk h.1, aoI_warm (s := U) (Vm.Alike.refl U.vm) h.2⟩
theorem zW_pre {As : List Value} {PH : Heap → Prop} {D : va_G} {cs : Nat → ClassId} {s : State} {H : Heap} (h : PH H) (hK : KK D cs s) (hO : aoI s) : ∀ U : State, U.heap = H → s.WarmedH U.vm → zW As PH D cs As.toArray U := fun U hU hW => ⟨zP_pre h hK U hU hW, aoI_warm hW.alike hO⟩

set_option maxHeartbeats 4000000 in
set_option maxRecDepth 100000 in
theorem c_X3_init (l : Launch) (D : va_G) (cs : Nat → ClassId) (S0 : Nat) (Y : va_W) (x9 : Nat) : Met l yX3_init wsX3_init ({ frames := 1, cells := 8, slots := 500, locals := 20 }) (zW [.ref x9] (fun H => Wd D S0 ((x9, .inr (4, [.int 0, .int 0, .null, .int 0, .null, .int 0, .null, .null, .null, .null, .int 0, .null])) :: Y) H) D cs) (va_Qv (fun v : (Nat → Nat) × MU × va_W => v.1 0 = x9 ∧ MF cs v.2.1 st0 (v.2.2 ++ Y)) (fun v t => Wd D S0 (MW cs v.1 v.2.1 0 st0 (v.2.2 ++ Y)) t.heap) (SA S0)) 8 500 (SA S0) := by
  refine Met.ofW (cc := cX3_init) (maxL := 1) (ret := none) (by decide) rfl ?_
  intro p e s m args below meth c s₁ B hml hv
  obtain ⟨⟨rfl, hW, hK⟩, hO9⟩ := hv
  have hx := B.exec
  have hb := B.bytes
  have hr := B.returns
  have hts := atoms_spec (ws := wsX3_init) B.pre
  have hown : s.vm.findClass RX3 = some m.cls := findClass_of_methodNamed B.named
  have hlocks := B.notSynchronized
  have hin9 : meth.name = "<init>" := (name_of_methodNamed B.named B.method).1
  have hRc : (headSpec wsX3_init ({ frames := 1, cells := 8, slots := 500, locals := 20 })).room.cells = 8 := rfl
  have hRs : (headSpec wsX3_init ({ frames := 1, cells := 8, slots := 500, locals := 20 })).room.slots = 500 := rfl
  have fl14 := hts (.fieldLink RX3 14 "DeltaUpdaterModel" "rows" "[[I") (by decide +kernel)
  have fl18 := hts (.fieldLink RX3 18 "DeltaUpdaterModel" "bases" "[[I") (by decide +kernel)
  have fl21 := hts (.fieldLink RX3 21 "DeltaUpdaterModel" "goals" "[[I") (by decide +kernel)
  have fl24 := hts (.fieldLink RX3 24 "DeltaUpdaterModel" "origins" "[[I") (by decide +kernel)
  have fl27 := hts (.fieldLink RX3 27 "DeltaUpdaterModel" "installed" "[I") (by decide +kernel)
  have fl30 := hts (.fieldLink RX3 30 "DeltaUpdaterModel" "history" "[[I") (by decide +kernel)
  have fl9 := hts (.fieldLink RX3 9 "DeltaUpdaterModel" "buffer" "[I") (by decide +kernel)
  have in4 : ∀ w ∈ u_ws RX3 TX3 12, w ∈ wsX3_init := by decide +kernel
  have hW : Wd D S0 ((x9, .inr (4, [.int 0, .int 0, .null, .int 0, .null, .int 0, .null, .null, .null, .null, .int 0, .null])) :: Y) s.heap := hW
  have hS0 : S0 ≤ s.heap.size := hW.2.2
  have hS : va_S (SA S0) s.heap s.heap [] := va_S.rf
  have hl := lv_entry ([.ref x9]) (n := 1) (Nat.le_of_ble_eq_true rfl)
  rw [lg_entry_eq]
  generalize (lg_sl ([.ref x9]) ++ List.replicate (1 - (lg_sl ([.ref x9])).length) Slot.unset).toArray = ls at hl ⊢
  have hl : lv_has ls 1 [(0, .ref x9)] := hl
  refine lv_aload_n hx hb dX3_init_0 rfl (lv_at hl 0 rfl) ?_
  refine W.objInit hx hb hown (hts (.methodLink RX3 1 objectInit) (by decide +kernel)) (hts (.instanceMethod objectInit) (by decide +kernel)) (hts (.code objectInit ⟨#[0xb1]⟩ 1 none) (by decide +kernel)) rfl (by rw [hml]; exact hl.1) rfl dX3_init_1 (Nat.le_of_ble_eq_true rfl) (Nat.le_of_ble_eq_true rfl) ?_
  refine W.eq (g2 := F0 m 4 ls []) rfl ?_
  refine lv_aload_n hx hb dX3_init_4 rfl (lv_at hl 0 rfl) ?_
  refine lv_sipush (v := nI 400) hx hb dX3_init_5 (by decide) ?_
  refine z_newa (n := 400) hx hb (hts (.arrayClass .int) (by decide +kernel)) hK hW hS hS0 (by omega) (by rw [hRc]; omega) (by rw [hRs]; omega) dX3_init_8 (fun q8 H hW hS => ?_)
  have hW := Wd.mv (M := [(x9, .inr (4, [.int 0, .int 0, .null, .int 0, .null, .int 0, .null, .null, .null, .null, .int 0, .null]))]) hW
  have hW : Wd D S0 ((x9, .inr (4, [.int 0, .int 0, .null, .int 0, .null, .int 0, .null, .null, .null, .null, .int 0, .null])) :: (q8, fa cs 400 (fun _ => 0)) :: Y) H := hW
  refine z_putF (ty := (.array .int)) (ci := 4) (v := .ref q8) (C := RX3) (T := TX3) (N := 12) hx hb hts in4 tyX3 tyX3_ok nmX3 hown hK hW hS 0 rfl rfl 2 (by decide) fl9 (fun _ h9 => h9) rfl hin9 rfl (by decide +kernel) rfl rfl (Nat.le_of_ble_eq_true rfl) dX3_init_10 (fun H locs hW hS => ?_)
  have hW : Wd D S0 ((x9, .inr (4, [.int 0, .int 0, .ref q8, .int 0, .null, .int 0, .null, .null, .null, .null, .int 0, .null])) :: (q8, fa cs 400 (fun _ => 0)) :: Y) H := hW
  refine lv_aload_n hx hb dX3_init_13 rfl (lv_at hl 0 rfl) ?_
  refine lv_bipush (v := nI 12) hx hb dX3_init_14 (by decide) ?_
  refine z_newA (n := 12) hx hb hown (hts (.classLink RX3 13 "[I") (by decide +kernel)) (aoI_use hO9) hK hW hS hS0 (by omega) (by rw [hRc]; omega) (by rw [hRs]; omega) dX3_init_16 (fun q16 H hW hS => ?_)
  have hW := Wd.mv (M := [(x9, .inr (4, [.int 0, .int 0, .ref q8, .int 0, .null, .int 0, .null, .null, .null, .null, .int 0, .null])), (q8, fa cs 400 (fun _ => 0))]) hW
  have hW : Wd D S0 ((x9, .inr (4, [.int 0, .int 0, .ref q8, .int 0, .null, .int 0, .null, .null, .null, .null, .int 0, .null])) :: (q8, fa cs 400 (fun _ => 0)) :: (q16, qa cs 2 12 (fun _ => none)) :: Y) H := hW
  refine z_putF (ty := (.array (.array .int))) (ci := 4) (v := .ref q16) (C := RX3) (T := TX3) (N := 12) hx hb hts in4 tyX3 tyX3_ok nmX3 hown hK hW hS 0 rfl rfl 4 (by decide) fl14 (fun _ h9 => h9) rfl hin9 rfl (by decide +kernel) rfl rfl (Nat.le_of_ble_eq_true rfl) dX3_init_19 (fun H locs hW hS => ?_)
  have hW : Wd D S0 ((x9, .inr (4, [.int 0, .int 0, .ref q8, .int 0, .ref q16, .int 0, .null, .null, .null, .null, .int 0, .null])) :: (q8, fa cs 400 (fun _ => 0)) :: (q16, qa cs 2 12 (fun _ => none)) :: Y) H := hW
  refine lv_aload_n hx hb dX3_init_22 rfl (lv_at hl 0 rfl) ?_
  refine lv_bipush (v := nI 12) hx hb dX3_init_23 (by decide) ?_
  refine z_newA (n := 12) hx hb hown (hts (.classLink RX3 13 "[I") (by decide +kernel)) (aoI_use hO9) hK hW hS hS0 (by omega) (by rw [hRc]; omega) (by rw [hRs]; omega) dX3_init_25 (fun q25 H hW hS => ?_)
  have hW := Wd.mv (M := [(x9, .inr (4, [.int 0, .int 0, .ref q8, .int 0, .ref q16, .int 0, .null, .null, .null, .null, .int 0, .null])), (q8, fa cs 400 (fun _ => 0)), (q16, qa cs 2 12 (fun _ => none))]) hW
  have hW : Wd D S0 ((x9, .inr (4, [.int 0, .int 0, .ref q8, .int 0, .ref q16, .int 0, .null, .null, .null, .null, .int 0, .null])) :: (q8, fa cs 400 (fun _ => 0)) :: (q16, qa cs 2 12 (fun _ => none)) :: (q25, qa cs 2 12 (fun _ => none)) :: Y) H := hW
  refine z_putF (ty := (.array (.array .int))) (ci := 4) (v := .ref q25) (C := RX3) (T := TX3) (N := 12) hx hb hts in4 tyX3 tyX3_ok nmX3 hown hK hW hS 0 rfl rfl 6 (by decide) fl18 (fun _ h9 => h9) rfl hin9 rfl (by decide +kernel) rfl rfl (Nat.le_of_ble_eq_true rfl) dX3_init_28 (fun H locs hW hS => ?_)
  have hW : Wd D S0 ((x9, .inr (4, [.int 0, .int 0, .ref q8, .int 0, .ref q16, .int 0, .ref q25, .null, .null, .null, .int 0, .null])) :: (q8, fa cs 400 (fun _ => 0)) :: (q16, qa cs 2 12 (fun _ => none)) :: (q25, qa cs 2 12 (fun _ => none)) :: Y) H := hW
  refine lv_aload_n hx hb dX3_init_31 rfl (lv_at hl 0 rfl) ?_
  refine lv_bipush (v := nI 12) hx hb dX3_init_32 (by decide) ?_
  refine z_newA (n := 12) hx hb hown (hts (.classLink RX3 13 "[I") (by decide +kernel)) (aoI_use hO9) hK hW hS hS0 (by omega) (by rw [hRc]; omega) (by rw [hRs]; omega) dX3_init_34 (fun q34 H hW hS => ?_)
  have hW := Wd.mv (M := [(x9, .inr (4, [.int 0, .int 0, .ref q8, .int 0, .ref q16, .int 0, .ref q25, .null, .null, .null, .int 0, .null])), (q8, fa cs 400 (fun _ => 0)), (q16, qa cs 2 12 (fun _ => none)), (q25, qa cs 2 12 (fun _ => none))]) hW
  have hW : Wd D S0 ((x9, .inr (4, [.int 0, .int 0, .ref q8, .int 0, .ref q16, .int 0, .ref q25, .null, .null, .null, .int 0, .null])) :: (q8, fa cs 400 (fun _ => 0)) :: (q16, qa cs 2 12 (fun _ => none)) :: (q25, qa cs 2 12 (fun _ => none)) :: (q34, qa cs 2 12 (fun _ => none)) :: Y) H := hW
  refine z_putF (ty := (.array (.array .int))) (ci := 4) (v := .ref q34) (C := RX3) (T := TX3) (N := 12) hx hb hts in4 tyX3 tyX3_ok nmX3 hown hK hW hS 0 rfl rfl 7 (by decide) fl21 (fun _ h9 => h9) rfl hin9 rfl (by decide +kernel) rfl rfl (Nat.le_of_ble_eq_true rfl) dX3_init_37 (fun H locs hW hS => ?_)
  have hW : Wd D S0 ((x9, .inr (4, [.int 0, .int 0, .ref q8, .int 0, .ref q16, .int 0, .ref q25, .ref q34, .null, .null, .int 0, .null])) :: (q8, fa cs 400 (fun _ => 0)) :: (q16, qa cs 2 12 (fun _ => none)) :: (q25, qa cs 2 12 (fun _ => none)) :: (q34, qa cs 2 12 (fun _ => none)) :: Y) H := hW
  refine lv_aload_n hx hb dX3_init_40 rfl (lv_at hl 0 rfl) ?_
  refine lv_bipush (v := nI 12) hx hb dX3_init_41 (by decide) ?_
  refine z_newA (n := 12) hx hb hown (hts (.classLink RX3 13 "[I") (by decide +kernel)) (aoI_use hO9) hK hW hS hS0 (by omega) (by rw [hRc]; omega) (by rw [hRs]; omega) dX3_init_43 (fun q43 H hW hS => ?_)
  have hW := Wd.mv (M := [(x9, .inr (4, [.int 0, .int 0, .ref q8, .int 0, .ref q16, .int 0, .ref q25, .ref q34, .null, .null, .int 0, .null])), (q8, fa cs 400 (fun _ => 0)), (q16, qa cs 2 12 (fun _ => none)), (q25, qa cs 2 12 (fun _ => none)), (q34, qa cs 2 12 (fun _ => none))]) hW
  have hW : Wd D S0 ((x9, .inr (4, [.int 0, .int 0, .ref q8, .int 0, .ref q16, .int 0, .ref q25, .ref q34, .null, .null, .int 0, .null])) :: (q8, fa cs 400 (fun _ => 0)) :: (q16, qa cs 2 12 (fun _ => none)) :: (q25, qa cs 2 12 (fun _ => none)) :: (q34, qa cs 2 12 (fun _ => none)) :: (q43, qa cs 2 12 (fun _ => none)) :: Y) H := hW
  refine z_putF (ty := (.array (.array .int))) (ci := 4) (v := .ref q43) (C := RX3) (T := TX3) (N := 12) hx hb hts in4 tyX3 tyX3_ok nmX3 hown hK hW hS 0 rfl rfl 8 (by decide) fl24 (fun _ h9 => h9) rfl hin9 rfl (by decide +kernel) rfl rfl (Nat.le_of_ble_eq_true rfl) dX3_init_46 (fun H locs hW hS => ?_)
  have hW : Wd D S0 ((x9, .inr (4, [.int 0, .int 0, .ref q8, .int 0, .ref q16, .int 0, .ref q25, .ref q34, .ref q43, .null, .int 0, .null])) :: (q8, fa cs 400 (fun _ => 0)) :: (q16, qa cs 2 12 (fun _ => none)) :: (q25, qa cs 2 12 (fun _ => none)) :: (q34, qa cs 2 12 (fun _ => none)) :: (q43, qa cs 2 12 (fun _ => none)) :: Y) H := hW
  refine lv_aload_n hx hb dX3_init_49 rfl (lv_at hl 0 rfl) ?_
  refine lv_iconst (v := nI 0) hx hb dX3_init_50 (by decide) ?_
  refine z_newa (n := 0) hx hb (hts (.arrayClass .int) (by decide +kernel)) hK hW hS hS0 (by omega) (by rw [hRc]; omega) (by rw [hRs]; omega) dX3_init_51 (fun q51 H hW hS => ?_)
  have hW := Wd.cong (g := bb []) (fun i9 hi9 => absurd hi9 (Nat.not_lt_zero i9)) hW
  have hW := Wd.mv (M := [(x9, .inr (4, [.int 0, .int 0, .ref q8, .int 0, .ref q16, .int 0, .ref q25, .ref q34, .ref q43, .null, .int 0, .null])), (q8, fa cs 400 (fun _ => 0)), (q16, qa cs 2 12 (fun _ => none)), (q25, qa cs 2 12 (fun _ => none)), (q34, qa cs 2 12 (fun _ => none)), (q43, qa cs 2 12 (fun _ => none))]) hW
  have hW : Wd D S0 ((x9, .inr (4, [.int 0, .int 0, .ref q8, .int 0, .ref q16, .int 0, .ref q25, .ref q34, .ref q43, .null, .int 0, .null])) :: (q8, fa cs 400 (fun _ => 0)) :: (q16, qa cs 2 12 (fun _ => none)) :: (q25, qa cs 2 12 (fun _ => none)) :: (q34, qa cs 2 12 (fun _ => none)) :: (q43, qa cs 2 12 (fun _ => none)) :: (q51, fa cs 0 (bb [])) :: Y) H := hW
  refine z_put (ty := (.array .int)) (ci := 4) (v := .ref q51) (C := RX3) (T := TX3) (N := 12) hx hb hts in4 tyX3 tyX3_ok nmX3 hown hK hW hS 0 rfl rfl 9 (by decide) fl27 (fun _ h9 => h9) rfl (by decide +kernel) rfl rfl (Nat.le_of_ble_eq_true rfl) dX3_init_53 (fun H locs hW hS => ?_)
  have hW : Wd D S0 ((x9, .inr (4, [.int 0, .int 0, .ref q8, .int 0, .ref q16, .int 0, .ref q25, .ref q34, .ref q43, .ref q51, .int 0, .null])) :: (q8, fa cs 400 (fun _ => 0)) :: (q16, qa cs 2 12 (fun _ => none)) :: (q25, qa cs 2 12 (fun _ => none)) :: (q34, qa cs 2 12 (fun _ => none)) :: (q43, qa cs 2 12 (fun _ => none)) :: (q51, fa cs 0 (bb [])) :: Y) H := hW
  refine lv_aload_n hx hb dX3_init_56 rfl (lv_at hl 0 rfl) ?_
  refine lv_bipush (v := nI 20) hx hb dX3_init_57 (by decide) ?_
  refine z_newA (n := 20) hx hb hown (hts (.classLink RX3 13 "[I") (by decide +kernel)) (aoI_use hO9) hK hW hS hS0 (by omega) (by rw [hRc]; omega) (by rw [hRs]; omega) dX3_init_59 (fun q59 H hW hS => ?_)
  have hW := Wd.mv (M := [(x9, .inr (4, [.int 0, .int 0, .ref q8, .int 0, .ref q16, .int 0, .ref q25, .ref q34, .ref q43, .ref q51, .int 0, .null])), (q8, fa cs 400 (fun _ => 0)), (q16, qa cs 2 12 (fun _ => none)), (q25, qa cs 2 12 (fun _ => none)), (q34, qa cs 2 12 (fun _ => none)), (q43, qa cs 2 12 (fun _ => none)), (q51, fa cs 0 (bb []))]) hW
  have hW : Wd D S0 ((x9, .inr (4, [.int 0, .int 0, .ref q8, .int 0, .ref q16, .int 0, .ref q25, .ref q34, .ref q43, .ref q51, .int 0, .null])) :: (q8, fa cs 400 (fun _ => 0)) :: (q16, qa cs 2 12 (fun _ => none)) :: (q25, qa cs 2 12 (fun _ => none)) :: (q34, qa cs 2 12 (fun _ => none)) :: (q43, qa cs 2 12 (fun _ => none)) :: (q51, fa cs 0 (bb [])) :: (q59, qa cs 2 20 (fun _ => none)) :: Y) H := hW
  refine z_putF (ty := (.array (.array .int))) (ci := 4) (v := .ref q59) (C := RX3) (T := TX3) (N := 12) hx hb hts in4 tyX3 tyX3_ok nmX3 hown hK hW hS 0 rfl rfl 11 (by decide) fl30 (fun _ h9 => h9) rfl hin9 rfl (by decide +kernel) rfl rfl (Nat.le_of_ble_eq_true rfl) dX3_init_62 (fun H locs hW hS => ?_)
  have hW : Wd D S0 ((x9, .inr (4, [.int 0, .int 0, .ref q8, .int 0, .ref q16, .int 0, .ref q25, .ref q34, .ref q43, .ref q51, .int 0, .ref q59])) :: (q8, fa cs 400 (fun _ => 0)) :: (q16, qa cs 2 12 (fun _ => none)) :: (q25, qa cs 2 12 (fun _ => none)) :: (q34, qa cs 2 12 (fun _ => none)) :: (q43, qa cs 2 12 (fun _ => none)) :: (q51, fa cs 0 (bb [])) :: (q59, qa cs 2 20 (fun _ => none)) :: Y) H := hW
  have hW : Wd D S0 (MW cs (fun i => [x9, q8, q16, q25, q34, q43, q59].getD i 0) ((fun _ => 0, fun _ _ => none, fun _ _ => 0, q51) : MU) 0 st0 ([(q51, ba cs [])] ++ Y)) H := hW.perm (List.Perm.cons _ (List.Perm.cons _ (List.Perm.cons _ (List.Perm.cons _ (List.Perm.cons _ (List.Perm.cons _ (List.Perm.swap _ _ _)))))))
  have hF : MF cs ((fun _ => 0, fun _ _ => none, fun _ _ => 0, q51) : MU) st0 ([(q51, ba cs [])] ++ Y) := ⟨fun i hi => absurd hi (Nat.not_lt_zero i), fun i hi => absurd hi (Nat.not_lt_zero i), fun i hi => absurd hi (Nat.not_lt_zero i), List.mem_cons_self, fun i hi => absurd hi (Nat.not_lt_zero i), st0_ok⟩
  refine W.widen (k := 8) (n := 500) (by omega) (by omega) ?_
  exact W.vret hx hb hr (fun t ht hW9 => ⟨⟨((fun i => [x9, q8, q16, q25, q34, q43, q59].getD i 0), ((fun _ => 0, fun _ _ => none, fun _ _ => 0, q51) : MU), [(q51, ba cs [])]), rfl, ⟨rfl, hF⟩, (by show Wd D S0 _ _; rw [ht]; exact hW)⟩, hS.F ht⟩) (fun q9 h9 => hS.2.2 q9 h9) dX3_init_65

set_option maxHeartbeats 4000000 in
set_option maxRecDepth 100000 in
theorem c_X3_thrown (l : Launch) (D : va_G) (cs : Nat → ClassId) (m9 : Nat) (fs : List Value) (th : Int32) (hf9 : fs[0]? = some (.int th)) : Met l yX3_thrown wsX3_thrown ({ frames := 0, cells := 0, slots := 0, locals := 0 }) (zP [.ref m9] (fun H => At D m9 (.inr (4, fs)) H) D cs) (vp_Si (fun r => r = th)) 0 0 (fun _ => False) := by
  refine Met.ofW (cc := cX3_thrown) (maxL := 1) (ret := (some .int)) (by decide) rfl ?_
  intro p e s m args below meth c s₁ B hml hv
  obtain ⟨rfl, hPH, hK⟩ := hv
  have hx := B.exec
  have hb := B.bytes
  have hr := B.returns
  have hts := atoms_spec (ws := wsX3_thrown) B.pre
  have hown : s.vm.findClass RX3 = some m.cls := findClass_of_methodNamed B.named
  have hlocks := B.notSynchronized
  have fl33 := hts (.fieldLink RX3 33 "DeltaUpdaterModel" "thrown" "I") (by decide +kernel)
  have in4 : ∀ w ∈ u_ws RX3 TX3 12, w ∈ wsX3_thrown := by decide +kernel
  have hPH : At D m9 (.inr (4, fs)) s.heap := hPH
  have hl := lv_entry ([.ref m9]) (n := 1) (Nat.le_of_ble_eq_true rfl)
  rw [lg_entry_eq]
  generalize (lg_sl ([.ref m9]) ++ List.replicate (1 - (lg_sl ([.ref m9])).length) Slot.unset).toArray = ls at hl ⊢
  have hl : lv_has ls 1 [(0, .ref m9)] := hl
  have hm9 := hPH
  refine lv_aload_n hx hb dX3_thrown_0 rfl (lv_at hl 0 rfl) ?_
  refine z_get (ci := 4) (v := .int th) (C := RX3) (T := TX3) (N := 12) hx hb hts in4 hown hK hm9 rfl 0 (by decide) fl33 (fun _ h9 => h9) hf9 dX3_thrown_1 ?_
  exact W.iret (v := th) hx hb hr (fun t ht hW => ⟨_, rfl, rfl, ht⟩) (fun q hq => absurd hq List.not_mem_nil) dX3_thrown_4

set_option maxHeartbeats 4000000 in
set_option maxRecDepth 100000 in
theorem c_X3_difference_a (l : Launch) (D : va_G) (cs : Nat → ClassId) (S0 : Nat) (Z : va_W) (b : Nat → Nat) (w : MU) (sg : St) (hF : MF cs w sg Z) (th : Int32) (v : Int32) (hv : vI v sg.2.1.length = false) (w9i z : Int32)  : Met l yX3_difference wsX3_difference ({ frames := 2, cells := 0, slots := 0, locals := 43 }) (zM [.ref (b 0), .int v, .int w9i, .int z] (fun H => Wd D S0 (MW cs b w (th) sg Z) H) D cs) (va_Qi (fun r (v : MU × va_W) => ((1 : Nat) = 0 → r = nI 0) ∧ MF cs v.1 sg (v.2 ++ Z)) (fun v t => Wd D S0 (MW cs b v.1 (nI 1) sg (v.2 ++ Z)) t.heap) (SA S0)) 0 0 (SA S0) := by
  refine Met.ofW (cc := cX3_difference) (maxL := 11) (ret := (some .int)) (by decide) rfl ?_
  intro p e s m args below meth c s₁ B hml hv
  obtain ⟨rfl, hW, hK, hA9⟩ := hv
  have hx := B.exec
  have hb := B.bytes
  have hr := B.returns
  have hts := atoms_spec (ws := wsX3_difference) B.pre
  have hown : s.vm.findClass RX3 = some m.cls := findClass_of_methodNamed B.named
  have hlocks := B.notSynchronized
  have hRc : (headSpec wsX3_difference ({ frames := 2, cells := 0, slots := 0, locals := 43 })).room.cells = 0 := rfl
  have hRs : (headSpec wsX3_difference ({ frames := 2, cells := 0, slots := 0, locals := 43 })).room.slots = 0 := rfl
  have fl33 := hts (.fieldLink RX3 33 "DeltaUpdaterModel" "thrown" "I") (by decide +kernel)
  have in4 : ∀ w ∈ u_ws RX3 TX3 12, w ∈ wsX3_difference := by decide +kernel
  have hW : Wd D S0 (MW cs b w (th) sg Z) s.heap := hW
  have hS0 : S0 ≤ s.heap.size := hW.2.2
  have hS : va_S (SA S0) s.heap s.heap [] := va_S.rf
  have hl := lv_entry ([.ref (b 0), .int v, .int w9i, .int z]) (n := 11) (Nat.le_of_ble_eq_true rfl)
  rw [lg_entry_eq]
  generalize (lg_sl ([.ref (b 0), .int v, .int w9i, .int z]) ++ List.replicate (11 - (lg_sl ([.ref (b 0), .int v, .int w9i, .int z])).length) Slot.unset).toArray = ls at hl ⊢
  have hl : lv_has ls 11 [(0, .ref (b 0)), (1, .int v), (2, .int w9i), (3, .int z)] := hl
  have hok := hF.2.2.2.2.2
  have hbl := hok.1.1
  have hnv := hok.2.1.1
  have hnp := hok.2.2.1.1
  have hnh := hok.2.2.2.2.1
  refine lv_aload_n hx hb dX3_difference_0 rfl (lv_at hl 0 rfl) ?_
  refine lv_iconst (v := nI 0) hx hb dX3_difference_1 (by decide) ?_
  refine z_put (ty := .int) (ci := 4) (v := .int (nI 0)) (C := RX3) (T := TX3) (N := 12) hx hb hts in4 tyX3 tyX3_ok nmX3 hown hK hW hS 0 rfl rfl 0 (by decide) fl33 (fun _ h9 => h9) rfl (by decide +kernel) rfl rfl (Nat.le_of_ble_eq_true rfl) dX3_difference_2 (fun H locs hW hS => ?_)
  have hW : Wd D S0 (((b 0), .inr (4, [.int (nI 0), .int (nI sg.1.length), .ref (b 1), .int (nI sg.2.1.length), .ref (b 2), .int (nI sg.2.2.1.length), .ref (b 3), .ref (b 4), .ref (b 5), .ref (mI w), .int (nI sg.2.2.2.2.length), .ref (b 6)])) :: ((b 1), fa cs 400 (mf w)) :: ((b 2), qa cs 2 12 (mg w 0)) :: ((b 3), qa cs 2 12 (mg w 1)) :: ((b 4), qa cs 2 12 (mg w 2)) :: ((b 5), qa cs 2 12 (mg w 3)) :: ((b 6), qa cs 2 20 (mg w 4)) :: Z) H := hW
  refine lv_aload_n hx hb dX3_difference_5 rfl (lv_at hl 0 rfl) ?_
  refine lv_iload_n hx hb dX3_difference_6 rfl (lv_at hl 1 rfl) ?_
  refine z_csV (As := [.int v]) (rest := []) ⟨hx, hb, hml, hown, hts⟩ (c_X3_isVersion l D cs (b 0) [.int (nI 0), .int (nI sg.1.length), .ref (b 1), .int (nI sg.2.1.length), .ref (b 2), .int (nI sg.2.2.1.length), .ref (b 3), .ref (b 4), .ref (b 5), .ref (mI w), .int (nI sg.2.2.2.2.length), .ref (b 6)] v sg.2.1.length rfl) (cwV 1 hts gX3_difference_X3_isVersion rfl rfl rfl (by decide +kernel) ⟨Nat.le_of_ble_eq_true rfl, Nat.le_of_ble_eq_true rfl⟩) (hW.1 0 _ rfl) rfl (hW.1 0 _ rfl) hK rfl hl.1 rfl (Nat.le_of_ble_eq_true rfl) dX3_difference_7 ⟨(by rw [hRc]; omega), (by rw [hRs]; omega)⟩ (fun r hq9 => ?_)
  have hq9 : r = bI (vI v sg.2.1.length) := hq9
  subst hq9
  refine z_ifb_eq (tgt := 21) hx hb dX3_difference_10 (by decide) (fun _ => ?_) (fun h9 => absurd (h9.symm.trans hv) (by decide))
  refine lv_aload_n hx hb dX3_difference_21 rfl (lv_at hl 0 rfl) ?_
  refine lv_iconst (v := nI 1) hx hb dX3_difference_22 (by decide) ?_
  refine z_cmI (va_runV (As := [.int (nI 1)]) (rest := []) ⟨hx, hb, hml, hown, hts⟩ (c_X3_fail l D cs S0 Z b w (nI 0) (nI 1) sg) (cwV 1 hts gX3_difference_X3_fail rfl rfl rfl (by decide +kernel) ⟨Nat.le_of_ble_eq_true rfl, Nat.le_of_ble_eq_true rfl⟩) ⟨zP_blind, z_recv hK (hW.1 0 _ rfl) rfl, (zP_pre hW hK)⟩ rfl rfl hl.1 rfl (lv_room (Nat.le_of_ble_eq_true rfl)) dX3_difference_23 ⟨(by rw [hRc]; omega), (by rw [hRs]; omega)⟩) hS (fun r u8 H locs hu hW hS => ?_)
  rw [hu]
  have hW : Wd D S0 (((b 0), .inr (4, [.int (nI 1), .int (nI sg.1.length), .ref (b 1), .int (nI sg.2.1.length), .ref (b 2), .int (nI sg.2.2.1.length), .ref (b 3), .ref (b 4), .ref (b 5), .ref (mI w), .int (nI sg.2.2.2.2.length), .ref (b 6)])) :: ((b 1), fa cs 400 (mf w)) :: ((b 2), qa cs 2 12 (mg w 0)) :: ((b 3), qa cs 2 12 (mg w 1)) :: ((b 4), qa cs 2 12 (mg w 2)) :: ((b 5), qa cs 2 12 (mg w 3)) :: ((b 6), qa cs 2 20 (mg w 4)) :: Z) H := hW
  refine W.widen (k := 0) (n := 0) (by omega) (by omega) ?_
  exact W.iret (v := nI 0) hx hb hr (fun t ht hW9 => ⟨⟨_, (w, []), rfl, ⟨fun h9 => absurd h9 (by decide), hF⟩, (by show Wd D S0 _ _; rw [ht]; exact hW)⟩, hS.F ht⟩) (fun q9 h9 => hS.2.2 q9 h9) dX3_difference_26

set_option maxHeartbeats 4000000 in
set_option maxRecDepth 100000 in
theorem c_X3_difference_b (l : Launch) (D : va_G) (cs : Nat → ClassId) (S0 : Nat) (Z : va_W) (b : Nat → Nat) (w : MU) (sg : St) (hF : MF cs w sg Z) (th : Int32) (v9 : Nat) (hv9 : v9 < sg.2.1.length) (v : Int32) (hv : vI v sg.2.1.length = false) (z : Int32)  : Met l yX3_difference wsX3_difference ({ frames := 2, cells := 0, slots := 0, locals := 43 }) (zM [.ref (b 0), .int (nI v9), .int v, .int z] (fun H => Wd D S0 (MW cs b w (th) sg Z) H) D cs) (va_Qi (fun r (v : MU × va_W) => ((1 : Nat) = 0 → r = nI 0) ∧ MF cs v.1 sg (v.2 ++ Z)) (fun v t => Wd D S0 (MW cs b v.1 (nI 1) sg (v.2 ++ Z)) t.heap) (SA S0)) 0 0 (SA S0) := by
  refine Met.ofW (cc := cX3_difference) (maxL := 11) (ret := (some .int)) (by decide) rfl ?_
  intro p e s m args below meth c s₁ B hml hv
  obtain ⟨rfl, hW, hK, hA9⟩ := hv
  have hx := B.exec
  have hb := B.bytes
  have hr := B.returns
  have hts := atoms_spec (ws := wsX3_difference) B.pre
  have hown : s.vm.findClass RX3 = some m.cls := findClass_of_methodNamed B.named
  have hlocks := B.notSynchronized
  have hRc : (headSpec wsX3_difference ({ frames := 2, cells := 0, slots := 0, locals := 43 })).room.cells = 0 := rfl
  have hRs : (headSpec wsX3_difference ({ frames := 2, cells := 0, slots := 0, locals := 43 })).room.slots = 0 := rfl
  have fl33 := hts (.fieldLink RX3 33 "DeltaUpdaterModel" "thrown" "I") (by decide +kernel)
  have in4 : ∀ w ∈ u_ws RX3 TX3 12, w ∈ wsX3_difference := by decide +kernel
  have hW : Wd D S0 (MW cs b w (th) sg Z) s.heap := hW
  have hS0 : S0 ≤ s.heap.size := hW.2.2
  have hS : va_S (SA S0) s.heap s.heap [] := va_S.rf
  have hl := lv_entry ([.ref (b 0), .int (nI v9), .int v, .int z]) (n := 11) (Nat.le_of_ble_eq_true rfl)
  rw [lg_entry_eq]
  generalize (lg_sl ([.ref (b 0), .int (nI v9), .int v, .int z]) ++ List.replicate (11 - (lg_sl ([.ref (b 0), .int (nI v9), .int v, .int z])).length) Slot.unset).toArray = ls at hl ⊢
  have hl : lv_has ls 11 [(0, .ref (b 0)), (1, .int (nI v9)), (2, .int v), (3, .int z)] := hl
  have hok := hF.2.2.2.2.2
  have hbl := hok.1.1
  have hnv := hok.2.1.1
  have hnp := hok.2.2.1.1
  have hnh := hok.2.2.2.2.1
  have hvi := vI_in hv9 (show sg.2.1.length < 2 ^ 30 by omega)
  refine lv_aload_n hx hb dX3_difference_0 rfl (lv_at hl 0 rfl) ?_
  refine lv_iconst (v := nI 0) hx hb dX3_difference_1 (by decide) ?_
  refine z_put (ty := .int) (ci := 4) (v := .int (nI 0)) (C := RX3) (T := TX3) (N := 12) hx hb hts in4 tyX3 tyX3_ok nmX3 hown hK hW hS 0 rfl rfl 0 (by decide) fl33 (fun _ h9 => h9) rfl (by decide +kernel) rfl rfl (Nat.le_of_ble_eq_true rfl) dX3_difference_2 (fun H locs hW hS => ?_)
  have hW : Wd D S0 (((b 0), .inr (4, [.int (nI 0), .int (nI sg.1.length), .ref (b 1), .int (nI sg.2.1.length), .ref (b 2), .int (nI sg.2.2.1.length), .ref (b 3), .ref (b 4), .ref (b 5), .ref (mI w), .int (nI sg.2.2.2.2.length), .ref (b 6)])) :: ((b 1), fa cs 400 (mf w)) :: ((b 2), qa cs 2 12 (mg w 0)) :: ((b 3), qa cs 2 12 (mg w 1)) :: ((b 4), qa cs 2 12 (mg w 2)) :: ((b 5), qa cs 2 12 (mg w 3)) :: ((b 6), qa cs 2 20 (mg w 4)) :: Z) H := hW
  refine lv_aload_n hx hb dX3_difference_5 rfl (lv_at hl 0 rfl) ?_
  refine lv_iload_n hx hb dX3_difference_6 rfl (lv_at hl 1 rfl) ?_
  refine z_csV (As := [.int (nI v9)]) (rest := []) ⟨hx, hb, hml, hown, hts⟩ (c_X3_isVersion l D cs (b 0) [.int (nI 0), .int (nI sg.1.length), .ref (b 1), .int (nI sg.2.1.length), .ref (b 2), .int (nI sg.2.2.1.length), .ref (b 3), .ref (b 4), .ref (b 5), .ref (mI w), .int (nI sg.2.2.2.2.length), .ref (b 6)] (nI v9) sg.2.1.length rfl) (cwV 1 hts gX3_difference_X3_isVersion rfl rfl rfl (by decide +kernel) ⟨Nat.le_of_ble_eq_true rfl, Nat.le_of_ble_eq_true rfl⟩) (hW.1 0 _ rfl) rfl (hW.1 0 _ rfl) hK rfl hl.1 rfl (Nat.le_of_ble_eq_true rfl) dX3_difference_7 ⟨(by rw [hRc]; omega), (by rw [hRs]; omega)⟩ (fun r hq9 => ?_)
  have hq9 : r = bI (vI (nI v9) sg.2.1.length) := hq9
  subst hq9
  refine z_ifb_eq (tgt := 21) hx hb dX3_difference_10 (by decide) (fun h9 => absurd (h9.symm.trans hvi) (by decide)) (fun _ => ?_)
  refine lv_aload_n hx hb dX3_difference_13 rfl (lv_at hl 0 rfl) ?_
  refine lv_iload_n hx hb dX3_difference_14 rfl (lv_at hl 2 rfl) ?_
  refine z_csV (As := [.int v]) (rest := []) ⟨hx, hb, hml, hown, hts⟩ (c_X3_isVersion l D cs (b 0) [.int (nI 0), .int (nI sg.1.length), .ref (b 1), .int (nI sg.2.1.length), .ref (b 2), .int (nI sg.2.2.1.length), .ref (b 3), .ref (b 4), .ref (b 5), .ref (mI w), .int (nI sg.2.2.2.2.length), .ref (b 6)] v sg.2.1.length rfl) (cwV 1 hts gX3_difference_X3_isVersion rfl rfl rfl (by decide +kernel) ⟨Nat.le_of_ble_eq_true rfl, Nat.le_of_ble_eq_true rfl⟩) (hW.1 0 _ rfl) rfl (hW.1 0 _ rfl) hK rfl hl.1 rfl (Nat.le_of_ble_eq_true rfl) dX3_difference_15 ⟨(by rw [hRc]; omega), (by rw [hRs]; omega)⟩ (fun r hq9 => ?_)
  have hq9 : r = bI (vI v sg.2.1.length) := hq9
  subst hq9
  refine z_ifb_ne (tgt := 27) hx hb dX3_difference_18 (by decide) (fun h9 => absurd (h9.symm.trans hv) (by decide)) (fun _ => ?_)
  refine lv_aload_n hx hb dX3_difference_21 rfl (lv_at hl 0 rfl) ?_
  refine lv_iconst (v := nI 1) hx hb dX3_difference_22 (by decide) ?_
  refine z_cmI (va_runV (As := [.int (nI 1)]) (rest := []) ⟨hx, hb, hml, hown, hts⟩ (c_X3_fail l D cs S0 Z b w (nI 0) (nI 1) sg) (cwV 1 hts gX3_difference_X3_fail rfl rfl rfl (by decide +kernel) ⟨Nat.le_of_ble_eq_true rfl, Nat.le_of_ble_eq_true rfl⟩) ⟨zP_blind, z_recv hK (hW.1 0 _ rfl) rfl, (zP_pre hW hK)⟩ rfl rfl hl.1 rfl (lv_room (Nat.le_of_ble_eq_true rfl)) dX3_difference_23 ⟨(by rw [hRc]; omega), (by rw [hRs]; omega)⟩) hS (fun r u8 H locs hu hW hS => ?_)
  rw [hu]
  have hW : Wd D S0 (((b 0), .inr (4, [.int (nI 1), .int (nI sg.1.length), .ref (b 1), .int (nI sg.2.1.length), .ref (b 2), .int (nI sg.2.2.1.length), .ref (b 3), .ref (b 4), .ref (b 5), .ref (mI w), .int (nI sg.2.2.2.2.length), .ref (b 6)])) :: ((b 1), fa cs 400 (mf w)) :: ((b 2), qa cs 2 12 (mg w 0)) :: ((b 3), qa cs 2 12 (mg w 1)) :: ((b 4), qa cs 2 12 (mg w 2)) :: ((b 5), qa cs 2 12 (mg w 3)) :: ((b 6), qa cs 2 20 (mg w 4)) :: Z) H := hW
  refine W.widen (k := 0) (n := 0) (by omega) (by omega) ?_
  exact W.iret (v := nI 0) hx hb hr (fun t ht hW9 => ⟨⟨_, (w, []), rfl, ⟨fun h9 => absurd h9 (by decide), hF⟩, (by show Wd D S0 _ _; rw [ht]; exact hW)⟩, hS.F ht⟩) (fun q9 h9 => hS.2.2 q9 h9) dX3_difference_26

set_option maxHeartbeats 4000000 in
set_option maxRecDepth 100000 in
theorem c_X3_difference_c (l : Launch) (D : va_G) (cs : Nat → ClassId) (S0 : Nat) (Z : va_W) (b : Nat → Nat) (w : MU) (sg : St) (hF : MF cs w sg Z) (th : Int32) (v9 : Nat) (hv9 : v9 < sg.2.1.length) (w9 : Nat) (hw9 : w9 < sg.2.1.length) (z : Int32) (hz : inB z (nI 2) (nI 32) = false)  : Met l yX3_difference wsX3_difference ({ frames := 2, cells := 0, slots := 0, locals := 43 }) (zM [.ref (b 0), .int (nI v9), .int (nI w9), .int z] (fun H => Wd D S0 (MW cs b w (th) sg Z) H) D cs) (va_Qi (fun r (v : MU × va_W) => ((2 : Nat) = 0 → r = nI 0) ∧ MF cs v.1 sg (v.2 ++ Z)) (fun v t => Wd D S0 (MW cs b v.1 (nI 2) sg (v.2 ++ Z)) t.heap) (SA S0)) 0 0 (SA S0) := by
  refine Met.ofW (cc := cX3_difference) (maxL := 11) (ret := (some .int)) (by decide) rfl ?_
  intro p e s m args below meth c s₁ B hml hv
  obtain ⟨rfl, hW, hK, hA9⟩ := hv
  have hx := B.exec
  have hb := B.bytes
  have hr := B.returns
  have hts := atoms_spec (ws := wsX3_difference) B.pre
  have hown : s.vm.findClass RX3 = some m.cls := findClass_of_methodNamed B.named
  have hlocks := B.notSynchronized
  have hRc : (headSpec wsX3_difference ({ frames := 2, cells := 0, slots := 0, locals := 43 })).room.cells = 0 := rfl
  have hRs : (headSpec wsX3_difference ({ frames := 2, cells := 0, slots := 0, locals := 43 })).room.slots = 0 := rfl
  have fl33 := hts (.fieldLink RX3 33 "DeltaUpdaterModel" "thrown" "I") (by decide +kernel)
  have in4 : ∀ w ∈ u_ws RX3 TX3 12, w ∈ wsX3_difference := by decide +kernel
  have hW : Wd D S0 (MW cs b w (th) sg Z) s.heap := hW
  have hS0 : S0 ≤ s.heap.size := hW.2.2
  have hS : va_S (SA S0) s.heap s.heap [] := va_S.rf
  have hl := lv_entry ([.ref (b 0), .int (nI v9), .int (nI w9), .int z]) (n := 11) (Nat.le_of_ble_eq_true rfl)
  rw [lg_entry_eq]
  generalize (lg_sl ([.ref (b 0), .int (nI v9), .int (nI w9), .int z]) ++ List.replicate (11 - (lg_sl ([.ref (b 0), .int (nI v9), .int (nI w9), .int z])).length) Slot.unset).toArray = ls at hl ⊢
  have hl : lv_has ls 11 [(0, .ref (b 0)), (1, .int (nI v9)), (2, .int (nI w9)), (3, .int z)] := hl
  have hok := hF.2.2.2.2.2
  have hbl := hok.1.1
  have hnv := hok.2.1.1
  have hnp := hok.2.2.1.1
  have hnh := hok.2.2.2.2.1
  have hvi := vI_in hv9 (show sg.2.1.length < 2 ^ 30 by omega)
  have hwi := vI_in hw9 (show sg.2.1.length < 2 ^ 30 by omega)
  refine lv_aload_n hx hb dX3_difference_0 rfl (lv_at hl 0 rfl) ?_
  refine lv_iconst (v := nI 0) hx hb dX3_difference_1 (by decide) ?_
  refine z_put (ty := .int) (ci := 4) (v := .int (nI 0)) (C := RX3) (T := TX3) (N := 12) hx hb hts in4 tyX3 tyX3_ok nmX3 hown hK hW hS 0 rfl rfl 0 (by decide) fl33 (fun _ h9 => h9) rfl (by decide +kernel) rfl rfl (Nat.le_of_ble_eq_true rfl) dX3_difference_2 (fun H locs hW hS => ?_)
  have hW : Wd D S0 (((b 0), .inr (4, [.int (nI 0), .int (nI sg.1.length), .ref (b 1), .int (nI sg.2.1.length), .ref (b 2), .int (nI sg.2.2.1.length), .ref (b 3), .ref (b 4), .ref (b 5), .ref (mI w), .int (nI sg.2.2.2.2.length), .ref (b 6)])) :: ((b 1), fa cs 400 (mf w)) :: ((b 2), qa cs 2 12 (mg w 0)) :: ((b 3), qa cs 2 12 (mg w 1)) :: ((b 4), qa cs 2 12 (mg w 2)) :: ((b 5), qa cs 2 12 (mg w 3)) :: ((b 6), qa cs 2 20 (mg w 4)) :: Z) H := hW
  refine lv_aload_n hx hb dX3_difference_5 rfl (lv_at hl 0 rfl) ?_
  refine lv_iload_n hx hb dX3_difference_6 rfl (lv_at hl 1 rfl) ?_
  refine z_csV (As := [.int (nI v9)]) (rest := []) ⟨hx, hb, hml, hown, hts⟩ (c_X3_isVersion l D cs (b 0) [.int (nI 0), .int (nI sg.1.length), .ref (b 1), .int (nI sg.2.1.length), .ref (b 2), .int (nI sg.2.2.1.length), .ref (b 3), .ref (b 4), .ref (b 5), .ref (mI w), .int (nI sg.2.2.2.2.length), .ref (b 6)] (nI v9) sg.2.1.length rfl) (cwV 1 hts gX3_difference_X3_isVersion rfl rfl rfl (by decide +kernel) ⟨Nat.le_of_ble_eq_true rfl, Nat.le_of_ble_eq_true rfl⟩) (hW.1 0 _ rfl) rfl (hW.1 0 _ rfl) hK rfl hl.1 rfl (Nat.le_of_ble_eq_true rfl) dX3_difference_7 ⟨(by rw [hRc]; omega), (by rw [hRs]; omega)⟩ (fun r hq9 => ?_)
  have hq9 : r = bI (vI (nI v9) sg.2.1.length) := hq9
  subst hq9
  refine z_ifb_eq (tgt := 21) hx hb dX3_difference_10 (by decide) (fun h9 => absurd (h9.symm.trans hvi) (by decide)) (fun _ => ?_)
  refine lv_aload_n hx hb dX3_difference_13 rfl (lv_at hl 0 rfl) ?_
  refine lv_iload_n hx hb dX3_difference_14 rfl (lv_at hl 2 rfl) ?_
  refine z_csV (As := [.int (nI w9)]) (rest := []) ⟨hx, hb, hml, hown, hts⟩ (c_X3_isVersion l D cs (b 0) [.int (nI 0), .int (nI sg.1.length), .ref (b 1), .int (nI sg.2.1.length), .ref (b 2), .int (nI sg.2.2.1.length), .ref (b 3), .ref (b 4), .ref (b 5), .ref (mI w), .int (nI sg.2.2.2.2.length), .ref (b 6)] (nI w9) sg.2.1.length rfl) (cwV 1 hts gX3_difference_X3_isVersion rfl rfl rfl (by decide +kernel) ⟨Nat.le_of_ble_eq_true rfl, Nat.le_of_ble_eq_true rfl⟩) (hW.1 0 _ rfl) rfl (hW.1 0 _ rfl) hK rfl hl.1 rfl (Nat.le_of_ble_eq_true rfl) dX3_difference_15 ⟨(by rw [hRc]; omega), (by rw [hRs]; omega)⟩ (fun r hq9 => ?_)
  have hq9 : r = bI (vI (nI w9) sg.2.1.length) := hq9
  subst hq9
  refine z_ifb_ne (tgt := 27) hx hb dX3_difference_18 (by decide) (fun _ => ?_) (fun h9 => absurd (h9.symm.trans hwi) (by decide))
  refine lv_iload_n hx hb dX3_difference_27 rfl (lv_at hl 3 rfl) ?_
  refine z_csS (As := [.int z]) (rest := []) ⟨hx, hb, hml, hown, hts⟩ (c_X3_isSize l D cs z) (va_cwS 1 hts gX3_difference_X3_isSize rfl rfl rfl (by decide +kernel) ⟨Nat.le_of_ble_eq_true rfl, Nat.le_of_ble_eq_true rfl⟩) trivial hK rfl hl.1 rfl (Nat.le_of_ble_eq_true rfl) dX3_difference_28 ⟨(by rw [hRc]; omega), (by rw [hRs]; omega)⟩ (fun r hq9 => ?_)
  have hq9 : r = bI (inB z (nI 2) (nI 32)) := hq9
  subst hq9
  refine z_ifb_ne (tgt := 40) hx hb dX3_difference_31 (by decide) (fun h9 => absurd (h9.symm.trans hz) (by decide)) (fun _ => ?_)
  refine lv_aload_n hx hb dX3_difference_34 rfl (lv_at hl 0 rfl) ?_
  refine lv_iconst (v := nI 2) hx hb dX3_difference_35 (by decide) ?_
  refine z_cmI (va_runV (As := [.int (nI 2)]) (rest := []) ⟨hx, hb, hml, hown, hts⟩ (c_X3_fail l D cs S0 Z b w (nI 0) (nI 2) sg) (cwV 1 hts gX3_difference_X3_fail rfl rfl rfl (by decide +kernel) ⟨Nat.le_of_ble_eq_true rfl, Nat.le_of_ble_eq_true rfl⟩) ⟨zP_blind, z_recv hK (hW.1 0 _ rfl) rfl, (zP_pre hW hK)⟩ rfl rfl hl.1 rfl (lv_room (Nat.le_of_ble_eq_true rfl)) dX3_difference_36 ⟨(by rw [hRc]; omega), (by rw [hRs]; omega)⟩) hS (fun r u8 H locs hu hW hS => ?_)
  rw [hu]
  have hW : Wd D S0 (((b 0), .inr (4, [.int (nI 2), .int (nI sg.1.length), .ref (b 1), .int (nI sg.2.1.length), .ref (b 2), .int (nI sg.2.2.1.length), .ref (b 3), .ref (b 4), .ref (b 5), .ref (mI w), .int (nI sg.2.2.2.2.length), .ref (b 6)])) :: ((b 1), fa cs 400 (mf w)) :: ((b 2), qa cs 2 12 (mg w 0)) :: ((b 3), qa cs 2 12 (mg w 1)) :: ((b 4), qa cs 2 12 (mg w 2)) :: ((b 5), qa cs 2 12 (mg w 3)) :: ((b 6), qa cs 2 20 (mg w 4)) :: Z) H := hW
  refine W.widen (k := 0) (n := 0) (by omega) (by omega) ?_
  exact W.iret (v := nI 0) hx hb hr (fun t ht hW9 => ⟨⟨_, (w, []), rfl, ⟨fun h9 => absurd h9 (by decide), hF⟩, (by show Wd D S0 _ _; rw [ht]; exact hW)⟩, hS.F ht⟩) (fun q9 h9 => hS.2.2 q9 h9) dX3_difference_39

set_option maxHeartbeats 4000000 in
set_option maxRecDepth 100000 in
theorem c_X3_difference_d (l : Launch) (D : va_G) (cs : Nat → ClassId) (S0 : Nat) (Z : va_W) (b : Nat → Nat) (w : MU) (sg : St) (hF : MF cs w sg Z) (th : Int32) (v9 : Nat) (hv9 : v9 < sg.2.1.length) (w9 : Nat) (hw9 : w9 < sg.2.1.length) (size : Nat) (h2 : 2 ≤ size) (h3 : size ≤ 32) (hfull : 12 ≤ sg.2.2.1.length)  : Met l yX3_difference wsX3_difference ({ frames := 2, cells := 0, slots := 0, locals := 43 }) (zM [.ref (b 0), .int (nI v9), .int (nI w9), .int (nI size)] (fun H => Wd D S0 (MW cs b w (th) sg Z) H) D cs) (va_Qi (fun r (v : MU × va_W) => ((3 : Nat) = 0 → r = nI 0) ∧ MF cs v.1 sg (v.2 ++ Z)) (fun v t => Wd D S0 (MW cs b v.1 (nI 3) sg (v.2 ++ Z)) t.heap) (SA S0)) 0 0 (SA S0) := by
  refine Met.ofW (cc := cX3_difference) (maxL := 11) (ret := (some .int)) (by decide) rfl ?_
  intro p e s m args below meth c s₁ B hml hv
  obtain ⟨rfl, hW, hK, hA9⟩ := hv
  have hx := B.exec
  have hb := B.bytes
  have hr := B.returns
  have hts := atoms_spec (ws := wsX3_difference) B.pre
  have hown : s.vm.findClass RX3 = some m.cls := findClass_of_methodNamed B.named
  have hlocks := B.notSynchronized
  have hRc : (headSpec wsX3_difference ({ frames := 2, cells := 0, slots := 0, locals := 43 })).room.cells = 0 := rfl
  have hRs : (headSpec wsX3_difference ({ frames := 2, cells := 0, slots := 0, locals := 43 })).room.slots = 0 := rfl
  have fl33 := hts (.fieldLink RX3 33 "DeltaUpdaterModel" "thrown" "I") (by decide +kernel)
  have fl44 := hts (.fieldLink RX3 44 "DeltaUpdaterModel" "patches" "I") (by decide +kernel)
  have in4 : ∀ w ∈ u_ws RX3 TX3 12, w ∈ wsX3_difference := by decide +kernel
  have hW : Wd D S0 (MW cs b w (th) sg Z) s.heap := hW
  have hS0 : S0 ≤ s.heap.size := hW.2.2
  have hS : va_S (SA S0) s.heap s.heap [] := va_S.rf
  have hl := lv_entry ([.ref (b 0), .int (nI v9), .int (nI w9), .int (nI size)]) (n := 11) (Nat.le_of_ble_eq_true rfl)
  rw [lg_entry_eq]
  generalize (lg_sl ([.ref (b 0), .int (nI v9), .int (nI w9), .int (nI size)]) ++ List.replicate (11 - (lg_sl ([.ref (b 0), .int (nI v9), .int (nI w9), .int (nI size)])).length) Slot.unset).toArray = ls at hl ⊢
  have hl : lv_has ls 11 [(0, .ref (b 0)), (1, .int (nI v9)), (2, .int (nI w9)), (3, .int (nI size))] := hl
  have hok := hF.2.2.2.2.2
  have hbl := hok.1.1
  have hnv := hok.2.1.1
  have hnp := hok.2.2.1.1
  have hnh := hok.2.2.2.2.1
  have hvi := vI_in hv9 (show sg.2.1.length < 2 ^ 30 by omega)
  have hwi := vI_in hw9 (show sg.2.1.length < 2 ^ 30 by omega)
  have hsb : inB (nI size) (nI 2) (nI 32) = true := inB_in h2 h3 (by decide)
  refine lv_aload_n hx hb dX3_difference_0 rfl (lv_at hl 0 rfl) ?_
  refine lv_iconst (v := nI 0) hx hb dX3_difference_1 (by decide) ?_
  refine z_put (ty := .int) (ci := 4) (v := .int (nI 0)) (C := RX3) (T := TX3) (N := 12) hx hb hts in4 tyX3 tyX3_ok nmX3 hown hK hW hS 0 rfl rfl 0 (by decide) fl33 (fun _ h9 => h9) rfl (by decide +kernel) rfl rfl (Nat.le_of_ble_eq_true rfl) dX3_difference_2 (fun H locs hW hS => ?_)
  have hW : Wd D S0 (((b 0), .inr (4, [.int (nI 0), .int (nI sg.1.length), .ref (b 1), .int (nI sg.2.1.length), .ref (b 2), .int (nI sg.2.2.1.length), .ref (b 3), .ref (b 4), .ref (b 5), .ref (mI w), .int (nI sg.2.2.2.2.length), .ref (b 6)])) :: ((b 1), fa cs 400 (mf w)) :: ((b 2), qa cs 2 12 (mg w 0)) :: ((b 3), qa cs 2 12 (mg w 1)) :: ((b 4), qa cs 2 12 (mg w 2)) :: ((b 5), qa cs 2 12 (mg w 3)) :: ((b 6), qa cs 2 20 (mg w 4)) :: Z) H := hW
  refine lv_aload_n hx hb dX3_difference_5 rfl (lv_at hl 0 rfl) ?_
  refine lv_iload_n hx hb dX3_difference_6 rfl (lv_at hl 1 rfl) ?_
  refine z_csV (As := [.int (nI v9)]) (rest := []) ⟨hx, hb, hml, hown, hts⟩ (c_X3_isVersion l D cs (b 0) [.int (nI 0), .int (nI sg.1.length), .ref (b 1), .int (nI sg.2.1.length), .ref (b 2), .int (nI sg.2.2.1.length), .ref (b 3), .ref (b 4), .ref (b 5), .ref (mI w), .int (nI sg.2.2.2.2.length), .ref (b 6)] (nI v9) sg.2.1.length rfl) (cwV 1 hts gX3_difference_X3_isVersion rfl rfl rfl (by decide +kernel) ⟨Nat.le_of_ble_eq_true rfl, Nat.le_of_ble_eq_true rfl⟩) (hW.1 0 _ rfl) rfl (hW.1 0 _ rfl) hK rfl hl.1 rfl (Nat.le_of_ble_eq_true rfl) dX3_difference_7 ⟨(by rw [hRc]; omega), (by rw [hRs]; omega)⟩ (fun r hq9 => ?_)
  have hq9 : r = bI (vI (nI v9) sg.2.1.length) := hq9
  subst hq9
  refine z_ifb_eq (tgt := 21) hx hb dX3_difference_10 (by decide) (fun h9 => absurd (h9.symm.trans hvi) (by decide)) (fun _ => ?_)
  refine lv_aload_n hx hb dX3_difference_13 rfl (lv_at hl 0 rfl) ?_
  refine lv_iload_n hx hb dX3_difference_14 rfl (lv_at hl 2 rfl) ?_
  refine z_csV (As := [.int (nI w9)]) (rest := []) ⟨hx, hb, hml, hown, hts⟩ (c_X3_isVersion l D cs (b 0) [.int (nI 0), .int (nI sg.1.length), .ref (b 1), .int (nI sg.2.1.length), .ref (b 2), .int (nI sg.2.2.1.length), .ref (b 3), .ref (b 4), .ref (b 5), .ref (mI w), .int (nI sg.2.2.2.2.length), .ref (b 6)] (nI w9) sg.2.1.length rfl) (cwV 1 hts gX3_difference_X3_isVersion rfl rfl rfl (by decide +kernel) ⟨Nat.le_of_ble_eq_true rfl, Nat.le_of_ble_eq_true rfl⟩) (hW.1 0 _ rfl) rfl (hW.1 0 _ rfl) hK rfl hl.1 rfl (Nat.le_of_ble_eq_true rfl) dX3_difference_15 ⟨(by rw [hRc]; omega), (by rw [hRs]; omega)⟩ (fun r hq9 => ?_)
  have hq9 : r = bI (vI (nI w9) sg.2.1.length) := hq9
  subst hq9
  refine z_ifb_ne (tgt := 27) hx hb dX3_difference_18 (by decide) (fun _ => ?_) (fun h9 => absurd (h9.symm.trans hwi) (by decide))
  refine lv_iload_n hx hb dX3_difference_27 rfl (lv_at hl 3 rfl) ?_
  refine z_csS (As := [.int (nI size)]) (rest := []) ⟨hx, hb, hml, hown, hts⟩ (c_X3_isSize l D cs (nI size)) (va_cwS 1 hts gX3_difference_X3_isSize rfl rfl rfl (by decide +kernel) ⟨Nat.le_of_ble_eq_true rfl, Nat.le_of_ble_eq_true rfl⟩) trivial hK rfl hl.1 rfl (Nat.le_of_ble_eq_true rfl) dX3_difference_28 ⟨(by rw [hRc]; omega), (by rw [hRs]; omega)⟩ (fun r hq9 => ?_)
  have hq9 : r = bI (inB (nI size) (nI 2) (nI 32)) := hq9
  subst hq9
  refine z_ifb_ne (tgt := 40) hx hb dX3_difference_31 (by decide) (fun _ => ?_) (fun h9 => absurd (h9.symm.trans hsb) (by decide))
  refine lv_aload_n hx hb dX3_difference_40 rfl (lv_at hl 0 rfl) ?_
  refine z_get (ci := 4) (v := .int (nI sg.2.2.1.length)) (C := RX3) (T := TX3) (N := 12) hx hb hts in4 hown hK (hW.1 0 _ rfl) rfl 5 (by decide) fl44 (fun _ h9 => h9) rfl dX3_difference_41 ?_
  refine lv_bipush (v := nI 12) hx hb dX3_difference_44 (by decide) ?_
  refine z_icmp_ne (tgt := 55) hx hb (by omega) (by omega) dX3_difference_46 (by decide) (fun hc46 => ?_) (fun hc46 => ?_)
  · skip
    have hc46 : ¬ sg.2.2.1.length = 12 := hc46
    omega
  · skip
    have hc46 : sg.2.2.1.length = 12 := hc46
    refine lv_aload_n hx hb dX3_difference_49 rfl (lv_at hl 0 rfl) ?_
    refine lv_iconst (v := nI 3) hx hb dX3_difference_50 (by decide) ?_
    refine z_cmI (va_runV (As := [.int (nI 3)]) (rest := []) ⟨hx, hb, hml, hown, hts⟩ (c_X3_fail l D cs S0 Z b w (nI 0) (nI 3) sg) (cwV 1 hts gX3_difference_X3_fail rfl rfl rfl (by decide +kernel) ⟨Nat.le_of_ble_eq_true rfl, Nat.le_of_ble_eq_true rfl⟩) ⟨zP_blind, z_recv hK (hW.1 0 _ rfl) rfl, (zP_pre hW hK)⟩ rfl rfl hl.1 rfl (lv_room (Nat.le_of_ble_eq_true rfl)) dX3_difference_51 ⟨(by rw [hRc]; omega), (by rw [hRs]; omega)⟩) hS (fun r u8 H locs hu hW hS => ?_)
    rw [hu]
    have hW : Wd D S0 (((b 0), .inr (4, [.int (nI 3), .int (nI sg.1.length), .ref (b 1), .int (nI sg.2.1.length), .ref (b 2), .int (nI sg.2.2.1.length), .ref (b 3), .ref (b 4), .ref (b 5), .ref (mI w), .int (nI sg.2.2.2.2.length), .ref (b 6)])) :: ((b 1), fa cs 400 (mf w)) :: ((b 2), qa cs 2 12 (mg w 0)) :: ((b 3), qa cs 2 12 (mg w 1)) :: ((b 4), qa cs 2 12 (mg w 2)) :: ((b 5), qa cs 2 12 (mg w 3)) :: ((b 6), qa cs 2 20 (mg w 4)) :: Z) H := hW
    refine W.widen (k := 0) (n := 0) (by omega) (by omega) ?_
    exact W.iret (v := nI 0) hx hb hr (fun t ht hW9 => ⟨⟨_, (w, []), rfl, ⟨fun h9 => absurd h9 (by decide), hF⟩, (by show Wd D S0 _ _; rw [ht]; exact hW)⟩, hS.F ht⟩) (fun q9 h9 => hS.2.2 q9 h9) dX3_difference_54

set_option maxHeartbeats 4000000 in
set_option maxRecDepth 100000 in
theorem c_X3_difference (l : Launch) (D : va_G) (cs : Nat → ClassId) (S0 : Nat) (Z : va_W) (b : Nat → Nat) (w : MU) (sg : St) (hF : MF cs w sg Z) (th : Int32) (v9 : Nat) (hv9 : v9 < sg.2.1.length) (w9 : Nat) (hw9 : w9 < sg.2.1.length) (size : Nat) (h2 : 2 ≤ size) (h3 : size ≤ 32) (hroom : sg.2.2.1.length < 12)  : Met l yX3_difference wsX3_difference ({ frames := 2, cells := 1, slots := 400, locals := 51 }) (zM [.ref (b 0), .int (nI v9), .int (nI w9), .int (nI size)] (fun H => Wd D S0 (MW cs b w (th) sg Z) H) D cs) (va_Qi (fun r (v : MU × va_W) => ((0 : Nat) = 0 → r = nI sg.2.2.1.length) ∧ MF cs v.1 (stP sg (((vsN sg.2.1 v9), (vsN sg.2.1 w9), ((List.range (vsN sg.2.1 w9).length).map (difO (BT (bb (vsN sg.2.1 v9)) (vsN sg.2.1 v9).length (bb (vsN sg.2.1 w9)) (vsN sg.2.1 w9).length size) size))) : Pt)) (v.2 ++ Z)) (fun v t => Wd D S0 (MW cs b v.1 (nI 0) (stP sg (((vsN sg.2.1 v9), (vsN sg.2.1 w9), ((List.range (vsN sg.2.1 w9).length).map (difO (BT (bb (vsN sg.2.1 v9)) (vsN sg.2.1 v9).length (bb (vsN sg.2.1 w9)) (vsN sg.2.1 w9).length size) size))) : Pt)) (v.2 ++ Z)) t.heap) (SA S0)) 1 400 (SA S0) := by
  refine Met.ofW (cc := cX3_difference) (maxL := 11) (ret := (some .int)) (by decide) rfl ?_
  intro p e s m args below meth c s₁ B hml hv
  obtain ⟨rfl, hW, hK, hA9⟩ := hv
  have hx := B.exec
  have hb := B.bytes
  have hr := B.returns
  have hts := atoms_spec (ws := wsX3_difference) B.pre
  have hown : s.vm.findClass RX3 = some m.cls := findClass_of_methodNamed B.named
  have hlocks := B.notSynchronized
  have hRc : (headSpec wsX3_difference ({ frames := 2, cells := 1, slots := 400, locals := 51 })).room.cells = 1 := rfl
  have hRs : (headSpec wsX3_difference ({ frames := 2, cells := 1, slots := 400, locals := 51 })).room.slots = 400 := rfl
  have fl14 := hts (.fieldLink RX3 14 "DeltaUpdaterModel" "rows" "[[I") (by decide +kernel)
  have fl33 := hts (.fieldLink RX3 33 "DeltaUpdaterModel" "thrown" "I") (by decide +kernel)
  have fl44 := hts (.fieldLink RX3 44 "DeltaUpdaterModel" "patches" "I") (by decide +kernel)
  have in4 : ∀ w ∈ u_ws RX3 TX3 12, w ∈ wsX3_difference := by decide +kernel
  have hW : Wd D S0 (MW cs b w (th) sg Z) s.heap := hW
  have hS0 : S0 ≤ s.heap.size := hW.2.2
  have hS : va_S (SA S0) s.heap s.heap [] := va_S.rf
  have hl := lv_entry ([.ref (b 0), .int (nI v9), .int (nI w9), .int (nI size)]) (n := 11) (Nat.le_of_ble_eq_true rfl)
  rw [lg_entry_eq]
  generalize (lg_sl ([.ref (b 0), .int (nI v9), .int (nI w9), .int (nI size)]) ++ List.replicate (11 - (lg_sl ([.ref (b 0), .int (nI v9), .int (nI w9), .int (nI size)])).length) Slot.unset).toArray = ls at hl ⊢
  have hl : lv_has ls 11 [(0, .ref (b 0)), (1, .int (nI v9)), (2, .int (nI w9)), (3, .int (nI size))] := hl
  have hok := hF.2.2.2.2.2
  have hbl := hok.1.1
  have hnv := hok.2.1.1
  have hnp := hok.2.2.1.1
  have hnh := hok.2.2.2.2.1
  have hvi := vI_in hv9 (show sg.2.1.length < 2 ^ 30 by omega)
  have hwi := vI_in hw9 (show sg.2.1.length < 2 ^ 30 by omega)
  have hsb : inB (nI size) (nI 2) (nI 32) = true := inB_in h2 h3 (by decide)
  have hln := (hok.2.1.2 v9 hv9).1
  have hlw := (hok.2.1.2 w9 hw9).1
  refine lv_aload_n hx hb dX3_difference_0 rfl (lv_at hl 0 rfl) ?_
  refine lv_iconst (v := nI 0) hx hb dX3_difference_1 (by decide) ?_
  refine z_put (ty := .int) (ci := 4) (v := .int (nI 0)) (C := RX3) (T := TX3) (N := 12) hx hb hts in4 tyX3 tyX3_ok nmX3 hown hK hW hS 0 rfl rfl 0 (by decide) fl33 (fun _ h9 => h9) rfl (by decide +kernel) rfl rfl (Nat.le_of_ble_eq_true rfl) dX3_difference_2 (fun H locs hW hS => ?_)
  have hW : Wd D S0 (((b 0), .inr (4, [.int (nI 0), .int (nI sg.1.length), .ref (b 1), .int (nI sg.2.1.length), .ref (b 2), .int (nI sg.2.2.1.length), .ref (b 3), .ref (b 4), .ref (b 5), .ref (mI w), .int (nI sg.2.2.2.2.length), .ref (b 6)])) :: ((b 1), fa cs 400 (mf w)) :: ((b 2), qa cs 2 12 (mg w 0)) :: ((b 3), qa cs 2 12 (mg w 1)) :: ((b 4), qa cs 2 12 (mg w 2)) :: ((b 5), qa cs 2 12 (mg w 3)) :: ((b 6), qa cs 2 20 (mg w 4)) :: Z) H := hW
  refine lv_aload_n hx hb dX3_difference_5 rfl (lv_at hl 0 rfl) ?_
  refine lv_iload_n hx hb dX3_difference_6 rfl (lv_at hl 1 rfl) ?_
  refine z_csV (As := [.int (nI v9)]) (rest := []) ⟨hx, hb, hml, hown, hts⟩ (c_X3_isVersion l D cs (b 0) [.int (nI 0), .int (nI sg.1.length), .ref (b 1), .int (nI sg.2.1.length), .ref (b 2), .int (nI sg.2.2.1.length), .ref (b 3), .ref (b 4), .ref (b 5), .ref (mI w), .int (nI sg.2.2.2.2.length), .ref (b 6)] (nI v9) sg.2.1.length rfl) (cwV 1 hts gX3_difference_X3_isVersion rfl rfl rfl (by decide +kernel) ⟨Nat.le_of_ble_eq_true rfl, Nat.le_of_ble_eq_true rfl⟩) (hW.1 0 _ rfl) rfl (hW.1 0 _ rfl) hK rfl hl.1 rfl (Nat.le_of_ble_eq_true rfl) dX3_difference_7 ⟨(by rw [hRc]; omega), (by rw [hRs]; omega)⟩ (fun r hq9 => ?_)
  have hq9 : r = bI (vI (nI v9) sg.2.1.length) := hq9
  subst hq9
  refine z_ifb_eq (tgt := 21) hx hb dX3_difference_10 (by decide) (fun h9 => absurd (h9.symm.trans hvi) (by decide)) (fun _ => ?_)
  refine lv_aload_n hx hb dX3_difference_13 rfl (lv_at hl 0 rfl) ?_
  refine lv_iload_n hx hb dX3_difference_14 rfl (lv_at hl 2 rfl) ?_
  refine z_csV (As := [.int (nI w9)]) (rest := []) ⟨hx, hb, hml, hown, hts⟩ (c_X3_isVersion l D cs (b 0) [.int (nI 0), .int (nI sg.1.length), .ref (b 1), .int (nI sg.2.1.length), .ref (b 2), .int (nI sg.2.2.1.length), .ref (b 3), .ref (b 4), .ref (b 5), .ref (mI w), .int (nI sg.2.2.2.2.length), .ref (b 6)] (nI w9) sg.2.1.length rfl) (cwV 1 hts gX3_difference_X3_isVersion rfl rfl rfl (by decide +kernel) ⟨Nat.le_of_ble_eq_true rfl, Nat.le_of_ble_eq_true rfl⟩) (hW.1 0 _ rfl) rfl (hW.1 0 _ rfl) hK rfl hl.1 rfl (Nat.le_of_ble_eq_true rfl) dX3_difference_15 ⟨(by rw [hRc]; omega), (by rw [hRs]; omega)⟩ (fun r hq9 => ?_)
  have hq9 : r = bI (vI (nI w9) sg.2.1.length) := hq9
  subst hq9
  refine z_ifb_ne (tgt := 27) hx hb dX3_difference_18 (by decide) (fun _ => ?_) (fun h9 => absurd (h9.symm.trans hwi) (by decide))
  refine lv_iload_n hx hb dX3_difference_27 rfl (lv_at hl 3 rfl) ?_
  refine z_csS (As := [.int (nI size)]) (rest := []) ⟨hx, hb, hml, hown, hts⟩ (c_X3_isSize l D cs (nI size)) (va_cwS 1 hts gX3_difference_X3_isSize rfl rfl rfl (by decide +kernel) ⟨Nat.le_of_ble_eq_true rfl, Nat.le_of_ble_eq_true rfl⟩) trivial hK rfl hl.1 rfl (Nat.le_of_ble_eq_true rfl) dX3_difference_28 ⟨(by rw [hRc]; omega), (by rw [hRs]; omega)⟩ (fun r hq9 => ?_)
  have hq9 : r = bI (inB (nI size) (nI 2) (nI 32)) := hq9
  subst hq9
  refine z_ifb_ne (tgt := 40) hx hb dX3_difference_31 (by decide) (fun _ => ?_) (fun h9 => absurd (h9.symm.trans hsb) (by decide))
  refine lv_aload_n hx hb dX3_difference_40 rfl (lv_at hl 0 rfl) ?_
  refine z_get (ci := 4) (v := .int (nI sg.2.2.1.length)) (C := RX3) (T := TX3) (N := 12) hx hb hts in4 hown hK (hW.1 0 _ rfl) rfl 5 (by decide) fl44 (fun _ h9 => h9) rfl dX3_difference_41 ?_
  refine lv_bipush (v := nI 12) hx hb dX3_difference_44 (by decide) ?_
  refine z_icmp_ne (tgt := 55) hx hb (by omega) (by omega) dX3_difference_46 (by decide) (fun hc46 => ?_) (fun hc46 => ?_)
  · skip
    have hc46 : ¬ sg.2.2.1.length = 12 := hc46
    refine lv_aload_n hx hb dX3_difference_55 rfl (lv_at hl 0 rfl) ?_
    refine z_get (ci := 4) (v := .ref (b 2)) (C := RX3) (T := TX3) (N := 12) hx hb hts in4 hown hK (hW.1 0 _ rfl) rfl 4 (by decide) fl14 (fun _ h9 => h9) rfl dX3_difference_56 ?_
    refine lv_iload_n hx hb dX3_difference_59 rfl (lv_at hl 1 rfl) ?_
    refine z_aald (k := v9) (y := (mA w 0 v9)) (t0 := 2) hx hb hK (hW.1 2 _ rfl) rfl rfl (by omega) (by omega) (hF.2.1 v9 hv9).1 dX3_difference_60 ?_
    refine lv_astore (lv' := [(4, .ref (mA w 0 v9)), (0, .ref (b 0)), (1, .int (nI v9)), (2, .int (nI w9)), (3, .int (nI size))]) hx hb dX3_difference_61 hl (by decide) rfl (fun ls hl => ?_)
    refine lv_aload_n hx hb dX3_difference_63 rfl (lv_at hl 1 rfl) ?_
    refine z_get (ci := 4) (v := .ref (b 2)) (C := RX3) (T := TX3) (N := 12) hx hb hts in4 hown hK (hW.1 0 _ rfl) rfl 4 (by decide) fl14 (fun _ h9 => h9) rfl dX3_difference_64 ?_
    refine lv_iload_n hx hb dX3_difference_67 rfl (lv_at hl 3 rfl) ?_
    refine z_aald (k := w9) (y := (mA w 0 w9)) (t0 := 2) hx hb hK (hW.1 2 _ rfl) rfl rfl (by omega) (by omega) (hF.2.1 w9 hw9).1 dX3_difference_68 ?_
    refine lv_astore (lv' := [(5, .ref (mA w 0 w9)), (4, .ref (mA w 0 v9)), (0, .ref (b 0)), (1, .int (nI v9)), (2, .int (nI w9)), (3, .int (nI size))]) hx hb dX3_difference_69 hl (by decide) rfl (fun ls hl => ?_)
    refine lv_aload hx hb dX3_difference_71 (lv_at hl 0 rfl) ?_
    refine z_alen (n := ((vsN sg.2.1 w9).length)) hx hb hK (hW.mem (List.mem_cons_of_mem _ (List.mem_cons_of_mem _ (List.mem_cons_of_mem _ (List.mem_cons_of_mem _ (List.mem_cons_of_mem _ (List.mem_cons_of_mem _ (List.mem_cons_of_mem _ (hF.2.1 w9 hw9).2)))))))) dX3_difference_73 ?_
    refine z_newa (n := ((vsN sg.2.1 w9).length)) hx hb (hts (.arrayClass .int) (by decide +kernel)) hK hW hS hS0 (by omega) (by rw [hRc]; omega) (by rw [hRs]; omega) dX3_difference_74 (fun q74 H hW hS => ?_)
    have hW := Wd.mv (M := [((b 0), .inr (4, [.int (nI 0), .int (nI sg.1.length), .ref (b 1), .int (nI sg.2.1.length), .ref (b 2), .int (nI sg.2.2.1.length), .ref (b 3), .ref (b 4), .ref (b 5), .ref (mI w), .int (nI sg.2.2.2.2.length), .ref (b 6)])), ((b 1), fa cs 400 (mf w)), ((b 2), qa cs 2 12 (mg w 0)), ((b 3), qa cs 2 12 (mg w 1)), ((b 4), qa cs 2 12 (mg w 2)), ((b 5), qa cs 2 12 (mg w 3)), ((b 6), qa cs 2 20 (mg w 4))]) hW
    have hW : Wd D S0 (((b 0), .inr (4, [.int (nI 0), .int (nI sg.1.length), .ref (b 1), .int (nI sg.2.1.length), .ref (b 2), .int (nI sg.2.2.1.length), .ref (b 3), .ref (b 4), .ref (b 5), .ref (mI w), .int (nI sg.2.2.2.2.length), .ref (b 6)])) :: ((b 1), fa cs 400 (mf w)) :: ((b 2), qa cs 2 12 (mg w 0)) :: ((b 3), qa cs 2 12 (mg w 1)) :: ((b 4), qa cs 2 12 (mg w 2)) :: ((b 5), qa cs 2 12 (mg w 3)) :: ((b 6), qa cs 2 20 (mg w 4)) :: (q74, fa cs ((vsN sg.2.1 w9).length) (fun _ => 0)) :: Z) H := hW
    refine lv_astore (lv' := [(6, .ref q74), (5, .ref (mA w 0 w9)), (4, .ref (mA w 0 v9)), (0, .ref (b 0)), (1, .int (nI v9)), (2, .int (nI w9)), (3, .int (nI size))]) hx hb dX3_difference_76 hl (by decide) rfl (fun ls hl => ?_)
    refine lv_iconst (v := (-1 : Int32)) hx hb dX3_difference_78 (by decide) ?_
    refine lv_istore (lv' := [(7, .int (-1 : Int32)), (6, .ref q74), (5, .ref (mA w 0 w9)), (4, .ref (mA w 0 v9)), (0, .ref (b 0)), (1, .int (nI v9)), (2, .int (nI w9)), (3, .int (nI size))]) hx hb dX3_difference_79 hl (by decide) rfl (fun ls hl => ?_)
    refine lv_iconst (v := nI 0) hx hb dX3_difference_81 (by decide) ?_
    refine lv_istore (lv' := [(8, .int (nI 0)), (7, .int (-1 : Int32)), (6, .ref q74), (5, .ref (mA w 0 w9)), (4, .ref (mA w 0 v9)), (0, .ref (b 0)), (1, .int (nI v9)), (2, .int (nI w9)), (3, .int (nI size))]) hx hb dX3_difference_82 hl (by decide) rfl (fun ls hl => ?_)
    refine z_loopM (σ := Nat × (Option Nat) × (Nat → Int32)) (fun q9 => (vsN sg.2.1 w9).length - q9.1) (fun q9 ls H locs => lv_has ls 11 [(8, .int (nI q9.1)), (7, .int (oI q9.2.1)), (0, .ref (b 0)), (1, .int (nI v9)), (2, .int (nI w9)), (3, .int (nI size)), (4, .ref (mA w 0 v9)), (5, .ref (mA w 0 w9)), (6, .ref q74)] ∧ Wd D S0 (((b 0), .inr (4, [.int (nI 0), .int (nI sg.1.length), .ref (b 1), .int (nI sg.2.1.length), .ref (b 2), .int (nI sg.2.2.1.length), .ref (b 3), .ref (b 4), .ref (b 5), .ref (mI w), .int (nI sg.2.2.2.2.length), .ref (b 6)])) :: ((b 1), fa cs 400 (mf w)) :: ((b 2), qa cs 2 12 (mg w 0)) :: ((b 3), qa cs 2 12 (mg w 1)) :: ((b 4), qa cs 2 12 (mg w 2)) :: ((b 5), qa cs 2 12 (mg w 3)) :: ((b 6), qa cs 2 20 (mg w 4)) :: (q74, fa cs ((vsN sg.2.1 w9).length) q9.2.2) :: Z) H ∧ va_S (SA S0) s.heap H locs ∧ (q9.1 ≤ (vsN sg.2.1 w9).length) ∧ (stS (BT (bb (vsN sg.2.1 v9)) (vsN sg.2.1 v9).length (bb (vsN sg.2.1 w9)) (vsN sg.2.1 w9).length size) size q9.1 = (q9.2.1, 0)) ∧ (∀ i, i < q9.1 → q9.2.2 i = difO (BT (bb (vsN sg.2.1 v9)) (vsN sg.2.1 v9).length (bb (vsN sg.2.1 w9)) (vsN sg.2.1 w9).length size) size i)) (0, none, (fun _ => 0)) ⟨lv_sub hl [0, 1, 5, 6, 7, 8, 4, 3, 2] rfl, hW, hS, (show 0 ≤ (vsN sg.2.1 w9).length from Nat.zero_le _), (show stS (BT (bb (vsN sg.2.1 v9)) (vsN sg.2.1 v9).length (bb (vsN sg.2.1 w9)) (vsN sg.2.1 w9).length size) size 0 = (none, 0) from rfl), (show ∀ i, i < 0 → (fun _ => 0) i = difO (BT (bb (vsN sg.2.1 v9)) (vsN sg.2.1 v9).length (bb (vsN sg.2.1 w9)) (vsN sg.2.1 w9).length size) size i from fun i hi => absurd hi (Nat.not_lt_zero i))⟩ (fun dd84 ih84 y9 ls H locs hd9 hI9 => ?_)
    obtain ⟨p9, last, g⟩ := y9
    have hd84 : (vsN sg.2.1 w9).length - p9 = dd84 := hd9
    have hI9 : lv_has ls 11 [(8, .int (nI p9)), (7, .int (oI last)), (0, .ref (b 0)), (1, .int (nI v9)), (2, .int (nI w9)), (3, .int (nI size)), (4, .ref (mA w 0 v9)), (5, .ref (mA w 0 w9)), (6, .ref q74)] ∧ Wd D S0 (((b 0), .inr (4, [.int (nI 0), .int (nI sg.1.length), .ref (b 1), .int (nI sg.2.1.length), .ref (b 2), .int (nI sg.2.2.1.length), .ref (b 3), .ref (b 4), .ref (b 5), .ref (mI w), .int (nI sg.2.2.2.2.length), .ref (b 6)])) :: ((b 1), fa cs 400 (mf w)) :: ((b 2), qa cs 2 12 (mg w 0)) :: ((b 3), qa cs 2 12 (mg w 1)) :: ((b 4), qa cs 2 12 (mg w 2)) :: ((b 5), qa cs 2 12 (mg w 3)) :: ((b 6), qa cs 2 20 (mg w 4)) :: (q74, fa cs ((vsN sg.2.1 w9).length) g) :: Z) H ∧ va_S (SA S0) s.heap H locs ∧ (p9 ≤ (vsN sg.2.1 w9).length) ∧ (stS (BT (bb (vsN sg.2.1 v9)) (vsN sg.2.1 v9).length (bb (vsN sg.2.1 w9)) (vsN sg.2.1 w9).length size) size p9 = (last, 0)) ∧ (∀ i, i < p9 → g i = difO (BT (bb (vsN sg.2.1 v9)) (vsN sg.2.1 v9).length (bb (vsN sg.2.1 w9)) (vsN sg.2.1 w9).length size) size i) := hI9
    obtain ⟨hl, hW, hS, hp, hst, hg⟩ := hI9
    obtain ⟨hs1, -, -⟩ := st_ok (B := (BT (bb (vsN sg.2.1 v9)) (vsN sg.2.1 v9).length (bb (vsN sg.2.1 w9)) (vsN sg.2.1 w9).length size)) (size := size) (N := (vsN sg.2.1 v9).length / size) (fun _ _ _ hb => btc_lt hb) p9
    rw [hst] at hs1
    have hs1 : ∀ q, last = some q → q < (vsN sg.2.1 v9).length / size := hs1
    have hdv := Nat.div_le_self (vsN sg.2.1 v9).length size
    have hdz : 0 < size := by omega
    refine lv_iload hx hb dX3_difference_84 (lv_at hl 0 rfl) ?_
    refine lv_aload hx hb dX3_difference_86 (lv_at hl 7 rfl) ?_
    refine z_alen (n := ((vsN sg.2.1 w9).length)) hx hb hK (hW.mem (List.mem_cons_of_mem _ (List.mem_cons_of_mem _ (List.mem_cons_of_mem _ (List.mem_cons_of_mem _ (List.mem_cons_of_mem _ (List.mem_cons_of_mem _ (List.mem_cons_of_mem _ (List.mem_cons_of_mem _ (hF.2.1 w9 hw9).2))))))))) dX3_difference_88 ?_
    refine z_icmp_ge (tgt := 235) hx hb (by omega) (by omega) dX3_difference_89 (by decide) (fun hc89 => ?_) (fun hc89 => ?_)
    · skip
      have hc89 : (vsN sg.2.1 w9).length ≤ p9 := hc89
      have e9 : p9 = (vsN sg.2.1 w9).length := by omega
      rw [e9] at hg
      have hW := hW.perm (List.perm_middle (l₁ := ML cs b w (nI 0) sg))
      have hW : Wd D S0 ((q74, fa cs (vsN sg.2.1 w9).length g) :: MW cs b w (nI 0) sg Z) H := hW
      have hW := Wd.cong (fun i9 hi9 => (hg i9 hi9).trans (rf_map (n := (vsN sg.2.1 w9).length) (F := difO (BT (bb (vsN sg.2.1 v9)) (vsN sg.2.1 v9).length (bb (vsN sg.2.1 w9)) (vsN sg.2.1 w9).length size) size) i9 hi9)) hW
      have hW := MW.grow (G := [(q74, fa cs (vsN sg.2.1 w9).length (rf ((List.range (vsN sg.2.1 w9).length).map (difO (BT (bb (vsN sg.2.1 v9)) (vsN sg.2.1 v9).length (bb (vsN sg.2.1 w9)) (vsN sg.2.1 w9).length size) size))))]) hW
      have hW : Wd D S0 (((b 0), .inr (4, [.int (nI 0), .int (nI sg.1.length), .ref (b 1), .int (nI sg.2.1.length), .ref (b 2), .int (nI sg.2.2.1.length), .ref (b 3), .ref (b 4), .ref (b 5), .ref (mI w), .int (nI sg.2.2.2.2.length), .ref (b 6)])) :: ((b 1), fa cs 400 (mf w)) :: ((b 2), qa cs 2 12 (mg w 0)) :: ((b 3), qa cs 2 12 (mg w 1)) :: ((b 4), qa cs 2 12 (mg w 2)) :: ((b 5), qa cs 2 12 (mg w 3)) :: ((b 6), qa cs 2 20 (mg w 4)) :: ([(q74, fa cs (vsN sg.2.1 w9).length (rf ((List.range (vsN sg.2.1 w9).length).map (difO (BT (bb (vsN sg.2.1 v9)) (vsN sg.2.1 v9).length (bb (vsN sg.2.1 w9)) (vsN sg.2.1 w9).length size) size))))] ++ Z)) H := hW
      refine lv_aload_n hx hb dX3_difference_235 rfl (lv_at hl 2 rfl) ?_
      refine lv_aload hx hb dX3_difference_236 (lv_at hl 6 rfl) ?_
      refine lv_aload hx hb dX3_difference_238 (lv_at hl 7 rfl) ?_
      refine lv_aload hx hb dX3_difference_240 (lv_at hl 8 rfl) ?_
      refine z_cmI (va_runV (As := [.ref (mA w 0 v9), .ref (mA w 0 w9), .ref q74]) (rest := []) ⟨hx, hb, hml, hown, hts⟩ (c_X3_add l D cs S0 ([(q74, fa cs (vsN sg.2.1 w9).length (rf ((List.range (vsN sg.2.1 w9).length).map (difO (BT (bb (vsN sg.2.1 v9)) (vsN sg.2.1 v9).length (bb (vsN sg.2.1 w9)) (vsN sg.2.1 w9).length size) size))))] ++ Z) b w sg (hF.more (fun q9 h9 => List.mem_cons_of_mem _ h9)) (nI 0) (mA w 0 v9) (mA w 0 w9) q74 (((vsN sg.2.1 v9), (vsN sg.2.1 w9), ((List.range (vsN sg.2.1 w9).length).map (difO (BT (bb (vsN sg.2.1 v9)) (vsN sg.2.1 v9).length (bb (vsN sg.2.1 w9)) (vsN sg.2.1 w9).length size) size))) : Pt) (List.mem_cons_of_mem _ (hF.2.1 v9 hv9).2) (List.mem_cons_of_mem _ (hF.2.1 w9 hw9).2) List.mem_cons_self ⟨hok.2.1.2 v9 hv9, hok.2.1.2 w9 hw9, rf_len, fun k hk => by rw [← rf_map (n := (vsN sg.2.1 w9).length) (F := difO (BT (bb (vsN sg.2.1 v9)) (vsN sg.2.1 v9).length (bb (vsN sg.2.1 w9)) (vsN sg.2.1 w9).length size) size) k hk]; exact dif_ok (fun _ _ _ hb => btc_lt hb) (Nat.div_mul_le_self _ _) (by omega) k⟩ hroom) (cwV 3 hts gX3_difference_X3_add rfl rfl rfl (by decide +kernel) ⟨Nat.le_of_ble_eq_true rfl, Nat.le_of_ble_eq_true rfl⟩) ⟨zM_blind, z_recv hK (hW.1 0 _ rfl) rfl, (zM_pre hW hK hA9)⟩ rfl rfl hl.1 rfl (lv_room (Nat.le_of_ble_eq_true rfl)) dX3_difference_242 ⟨(by rw [hRc]; omega), (by rw [hRs]; omega)⟩) hS (fun r u8 H locs hu hW hS => ?_)
      obtain ⟨hu1, hu2⟩ := hu
      rw [hu1]
      rw [← List.append_assoc] at hW hu2
      refine W.widen (k := 1) (n := 400) (by omega) (by omega) ?_
      exact W.iret (v := nI sg.2.2.1.length) hx hb hr (fun t ht hW9 => ⟨⟨_, (u8.1, u8.2 ++ [(q74, fa cs (vsN sg.2.1 w9).length (rf ((List.range (vsN sg.2.1 w9).length).map (difO (BT (bb (vsN sg.2.1 v9)) (vsN sg.2.1 v9).length (bb (vsN sg.2.1 w9)) (vsN sg.2.1 w9).length size) size))))]), rfl, ⟨fun _ => rfl, hu2⟩, (by show Wd D S0 _ _; rw [ht]; exact hW)⟩, hS.F ht⟩) (fun q9 h9 => hS.2.2 q9 h9) dX3_difference_245
    · skip
      have hc89 : p9 < (vsN sg.2.1 w9).length := hc89
      refine lv_iconst (v := (-1 : Int32)) hx hb dX3_difference_92 (by decide) ?_
      refine lv_istore (lv' := [(9, .int (-1 : Int32)), (8, .int (nI p9)), (7, .int (oI last)), (0, .ref (b 0)), (1, .int (nI v9)), (2, .int (nI w9)), (3, .int (nI size)), (4, .ref (mA w 0 v9)), (5, .ref (mA w 0 w9)), (6, .ref q74)]) hx hb dX3_difference_93 hl (by decide) rfl (fun ls hl => ?_)
      refine lv_aload hx hb dX3_difference_95 (lv_at hl 8 rfl) ?_
      refine z_alen (n := ((vsN sg.2.1 w9).length)) hx hb hK (hW.mem (List.mem_cons_of_mem _ (List.mem_cons_of_mem _ (List.mem_cons_of_mem _ (List.mem_cons_of_mem _ (List.mem_cons_of_mem _ (List.mem_cons_of_mem _ (List.mem_cons_of_mem _ (List.mem_cons_of_mem _ (hF.2.1 w9 hw9).2))))))))) dX3_difference_97 ?_
      refine lv_iload hx hb dX3_difference_98 (lv_at hl 1 rfl) ?_
      refine lv_isub hx hb dX3_difference_100 ?_
      refine zti (pk_sub (by omega)) (y := nI (((vsN sg.2.1 w9).length) - p9)) ?_
      refine lv_iload_n hx hb dX3_difference_101 rfl (lv_at hl 6 rfl) ?_
      refine z_icmp_lt (tgt := 174) hx hb (by omega) (by omega) dX3_difference_102 (by decide) (fun hc102 => ?_) (fun hc102 => ?_)
      · skip
        have hc102 : ((vsN sg.2.1 w9).length) - p9 < size := hc102
        have hbt : btc (bb (vsN sg.2.1 v9)) (vsN sg.2.1 v9).length (bb (vsN sg.2.1 w9)) (vsN sg.2.1 w9).length p9 size last = none := btc_lo (by omega)
        have hB9 := hbt
        have hB : (BT (bb (vsN sg.2.1 v9)) (vsN sg.2.1 v9).length (bb (vsN sg.2.1 w9)) (vsN sg.2.1 w9).length size) p9 last = none := hbt
        have hB0 := hB
        refine lv_iload hx hb dX3_difference_174 (lv_at hl 0 rfl) ?_
        refine lv_iconst (v := (-1 : Int32)) hx hb dX3_difference_176 (by decide) ?_
        refine lv_icmp_ne (tgt := 192) hx hb dX3_difference_177 (by decide) (fun hc177 => ?_) (fun hc177 => ?_)
        · skip
          have hc177 : ¬ (-1 : Int32) = (-1 : Int32) := hc177
          exact absurd rfl hc177
        · skip
          have hc177 : (-1 : Int32) = (-1 : Int32) := hc177
          refine lv_aload hx hb dX3_difference_180 (lv_at hl 9 rfl) ?_
          refine lv_iload hx hb dX3_difference_182 (lv_at hl 1 rfl) ?_
          refine lv_iconst (v := (-1 : Int32)) hx hb dX3_difference_184 (by decide) ?_
          refine z_iast (k := p9) (x := (-1 : Int32)) (n := ((vsN sg.2.1 w9).length)) (f := g) hx hb hK hW hS 7 rfl (by omega) (by omega) dX3_difference_185 (fun H locs hW hS => ?_)
          have hW : Wd D S0 (((b 0), .inr (4, [.int (nI 0), .int (nI sg.1.length), .ref (b 1), .int (nI sg.2.1.length), .ref (b 2), .int (nI sg.2.2.1.length), .ref (b 3), .ref (b 4), .ref (b 5), .ref (mI w), .int (nI sg.2.2.2.2.length), .ref (b 6)])) :: ((b 1), fa cs 400 (mf w)) :: ((b 2), qa cs 2 12 (mg w 0)) :: ((b 3), qa cs 2 12 (mg w 1)) :: ((b 4), qa cs 2 12 (mg w 2)) :: ((b 5), qa cs 2 12 (mg w 3)) :: ((b 6), qa cs 2 20 (mg w 4)) :: (q74, fa cs ((vsN sg.2.1 w9).length) (upd g p9 (-1 : Int32))) :: Z) H := hW
          have hl : lv_has ls 11 [(9, .int (-1 : Int32)), (8, .int (nI p9)), (7, .int (oI last)), (0, .ref (b 0)), (1, .int (nI v9)), (2, .int (nI w9)), (3, .int (nI size)), (4, .ref (mA w 0 v9)), (5, .ref (mA w 0 w9)), (6, .ref q74)] := hl
          refine lv_iinc (v := nI (p9 + 1)) (lv' := [(8, .int (nI (p9 + 1))), (9, .int (-1 : Int32)), (7, .int (oI last)), (0, .ref (b 0)), (1, .int (nI v9)), (2, .int (nI w9)), (3, .int (nI size)), (4, .ref (mA w 0 v9)), (5, .ref (mA w 0 w9)), (6, .ref q74)]) hx hb dX3_difference_186 hl (k := 1) rfl (z_inc _) (by decide) rfl (fun ls hl => ?_)
          refine lv_goto (tgt := 84) hx hb dX3_difference_189 (by decide) ?_
          exact ih84 ((p9 + 1), last, (upd g p9 (-1 : Int32))) ls H locs (show (vsN sg.2.1 w9).length - (p9 + 1) < dd84 by omega) ⟨lv_sub hl [0, 2, 3, 4, 5, 6, 7, 8, 9] rfl, hW, hS, (show (p9 + 1) ≤ (vsN sg.2.1 w9).length from by omega), (show stS (BT (bb (vsN sg.2.1 v9)) (vsN sg.2.1 v9).length (bb (vsN sg.2.1 w9)) (vsN sg.2.1 w9).length size) size (p9 + 1) = (last, 0) from (md_l hst hB).2), (show ∀ i, i < (p9 + 1) → (upd g p9 (-1 : Int32)) i = difO (BT (bb (vsN sg.2.1 v9)) (vsN sg.2.1 v9).length (bb (vsN sg.2.1 w9)) (vsN sg.2.1 w9).length size) size i from upd_ok hg (md_l hst hB).1.symm)⟩
      · skip
        have hc102 : size ≤ ((vsN sg.2.1 w9).length) - p9 := hc102
        rcases last with _ | q8
        · skip
          have hl : lv_has ls 11 [(9, .int (-1 : Int32)), (8, .int (nI p9)), (7, .int (-1 : Int32)), (0, .ref (b 0)), (1, .int (nI v9)), (2, .int (nI w9)), (3, .int (nI size)), (4, .ref (mA w 0 v9)), (5, .ref (mA w 0 w9)), (6, .ref q74)] := hl
          refine lv_iload hx hb dX3_difference_105 (lv_at hl 2 rfl) ?_
          refine lv_iconst (v := (-1 : Int32)) hx hb dX3_difference_107 (by decide) ?_
          refine lv_icmp_eq (tgt := 146) hx hb dX3_difference_108 (by decide) (fun hc108 => ?_) (fun hc108 => ?_)
          · skip
            have hc108 : (-1 : Int32) = (-1 : Int32) := hc108
            have hbt : btc (bb (vsN sg.2.1 v9)) (vsN sg.2.1 v9).length (bb (vsN sg.2.1 w9)) (vsN sg.2.1 w9).length p9 size none = _ := btc_no (by omega)
            refine lv_iconst (v := nI 0) hx hb dX3_difference_146 (by decide) ?_
            refine lv_istore (lv' := [(10, .int (nI 0)), (9, .int (-1 : Int32)), (8, .int (nI p9)), (7, .int (-1 : Int32)), (0, .ref (b 0)), (1, .int (nI v9)), (2, .int (nI w9)), (3, .int (nI size)), (4, .ref (mA w 0 v9)), (5, .ref (mA w 0 w9)), (6, .ref q74)]) hx hb dX3_difference_147 hl (by decide) rfl (fun ls hl => ?_)
            refine lv_iload hx hb dX3_difference_149 (lv_at hl 0 rfl) ?_
            refine lv_if_eq (tgt := 161) hx hb dX3_difference_151 (by decide) (fun _ => ?_) (fun h9 => absurd (by decide) h9)
            refine lv_aload hx hb dX3_difference_161 (lv_at hl 8 rfl) ?_
            refine lv_iload_n hx hb dX3_difference_163 rfl (lv_at hl 7 rfl) ?_
            refine lv_aload hx hb dX3_difference_164 (lv_at hl 9 rfl) ?_
            refine lv_iload hx hb dX3_difference_166 (lv_at hl 2 rfl) ?_
            refine lv_iconst (v := nI 0) hx hb dX3_difference_168 (by decide) ?_
            refine z_csS (As := [.ref (mA w 0 v9), .int (nI size), .ref (mA w 0 w9), .int (nI p9), .int (nI 0)]) (rest := []) ⟨hx, hb, hml, hown, hts⟩ (c_X3_blockLike l D cs (mA w 0 v9) (mA w 0 w9) (vsN sg.2.1 v9).length (vsN sg.2.1 w9).length (bb (vsN sg.2.1 v9)) (bb (vsN sg.2.1 w9)) p9 size h2 (by omega) (by omega) (by omega) (by omega)) (va_cwS 5 hts gX3_difference_X3_blockLike rfl rfl rfl (by decide +kernel) ⟨Nat.le_of_ble_eq_true rfl, Nat.le_of_ble_eq_true rfl⟩) ⟨(hW.mem (List.mem_cons_of_mem _ (List.mem_cons_of_mem _ (List.mem_cons_of_mem _ (List.mem_cons_of_mem _ (List.mem_cons_of_mem _ (List.mem_cons_of_mem _ (List.mem_cons_of_mem _ (List.mem_cons_of_mem _ (hF.2.1 v9 hv9).2))))))))), (hW.mem (List.mem_cons_of_mem _ (List.mem_cons_of_mem _ (List.mem_cons_of_mem _ (List.mem_cons_of_mem _ (List.mem_cons_of_mem _ (List.mem_cons_of_mem _ (List.mem_cons_of_mem _ (List.mem_cons_of_mem _ (hF.2.1 w9 hw9).2)))))))))⟩ hK rfl hl.1 rfl (Nat.le_of_ble_eq_true rfl) dX3_difference_169 ⟨(by rw [hRc]; omega), (by rw [hRs]; omega)⟩ (fun r hq9 => ?_)
            have hq9 : r = oI (fsF (fun z => stB (bb (vsN sg.2.1 v9)) (bb (vsN sg.2.1 w9)) (z * size) p9 size) ((vsN sg.2.1 v9).length / size)) := hq9
            subst hq9
            refine lv_istore (lv' := [(9, .int (oI (fsF (fun z => stB (bb (vsN sg.2.1 v9)) (bb (vsN sg.2.1 w9)) (z * size) p9 size) ((vsN sg.2.1 v9).length / size)))), (10, .int (nI 0)), (8, .int (nI p9)), (7, .int (-1 : Int32)), (0, .ref (b 0)), (1, .int (nI v9)), (2, .int (nI w9)), (3, .int (nI size)), (4, .ref (mA w 0 v9)), (5, .ref (mA w 0 w9)), (6, .ref q74)]) hx hb dX3_difference_172 hl (by decide) rfl (fun ls hl => ?_)
            have hB9 := hbt
            rcases hfs : fsF (fun z => stB (bb (vsN sg.2.1 v9)) (bb (vsN sg.2.1 w9)) (z * size) p9 size) ((vsN sg.2.1 v9).length / size) with _ | b9
            · skip
              rw [hfs] at hl hbt
              have hB : (BT (bb (vsN sg.2.1 v9)) (vsN sg.2.1 v9).length (bb (vsN sg.2.1 w9)) (vsN sg.2.1 w9).length size) p9 none = none := hbt
              have hl : lv_has ls 11 [(9, .int (-1 : Int32)), (10, .int (nI 0)), (8, .int (nI p9)), (7, .int (-1 : Int32)), (0, .ref (b 0)), (1, .int (nI v9)), (2, .int (nI w9)), (3, .int (nI size)), (4, .ref (mA w 0 v9)), (5, .ref (mA w 0 w9)), (6, .ref q74)] := hl
              refine lv_iload hx hb dX3_difference_174 (lv_at hl 0 rfl) ?_
              refine lv_iconst (v := (-1 : Int32)) hx hb dX3_difference_176 (by decide) ?_
              refine lv_icmp_ne (tgt := 192) hx hb dX3_difference_177 (by decide) (fun hc177 => ?_) (fun hc177 => ?_)
              · skip
                have hc177 : ¬ (-1 : Int32) = (-1 : Int32) := hc177
                exact absurd rfl hc177
              · skip
                have hc177 : (-1 : Int32) = (-1 : Int32) := hc177
                refine lv_aload hx hb dX3_difference_180 (lv_at hl 10 rfl) ?_
                refine lv_iload hx hb dX3_difference_182 (lv_at hl 2 rfl) ?_
                refine lv_iconst (v := (-1 : Int32)) hx hb dX3_difference_184 (by decide) ?_
                refine z_iast (k := p9) (x := (-1 : Int32)) (n := ((vsN sg.2.1 w9).length)) (f := g) hx hb hK hW hS 7 rfl (by omega) (by omega) dX3_difference_185 (fun H locs hW hS => ?_)
                have hW : Wd D S0 (((b 0), .inr (4, [.int (nI 0), .int (nI sg.1.length), .ref (b 1), .int (nI sg.2.1.length), .ref (b 2), .int (nI sg.2.2.1.length), .ref (b 3), .ref (b 4), .ref (b 5), .ref (mI w), .int (nI sg.2.2.2.2.length), .ref (b 6)])) :: ((b 1), fa cs 400 (mf w)) :: ((b 2), qa cs 2 12 (mg w 0)) :: ((b 3), qa cs 2 12 (mg w 1)) :: ((b 4), qa cs 2 12 (mg w 2)) :: ((b 5), qa cs 2 12 (mg w 3)) :: ((b 6), qa cs 2 20 (mg w 4)) :: (q74, fa cs ((vsN sg.2.1 w9).length) (upd g p9 (-1 : Int32))) :: Z) H := hW
                have hl : lv_has ls 11 [(9, .int (-1 : Int32)), (10, .int (nI 0)), (8, .int (nI p9)), (7, .int (oI none)), (0, .ref (b 0)), (1, .int (nI v9)), (2, .int (nI w9)), (3, .int (nI size)), (4, .ref (mA w 0 v9)), (5, .ref (mA w 0 w9)), (6, .ref q74)] := hl
                refine lv_iinc (v := nI (p9 + 1)) (lv' := [(8, .int (nI (p9 + 1))), (9, .int (-1 : Int32)), (10, .int (nI 0)), (7, .int (oI none)), (0, .ref (b 0)), (1, .int (nI v9)), (2, .int (nI w9)), (3, .int (nI size)), (4, .ref (mA w 0 v9)), (5, .ref (mA w 0 w9)), (6, .ref q74)]) hx hb dX3_difference_186 hl (k := 2) rfl (z_inc _) (by decide) rfl (fun ls hl => ?_)
                refine lv_goto (tgt := 84) hx hb dX3_difference_189 (by decide) ?_
                exact ih84 ((p9 + 1), none, (upd g p9 (-1 : Int32))) ls H locs (show (vsN sg.2.1 w9).length - (p9 + 1) < dd84 by omega) ⟨lv_sub hl [0, 3, 4, 5, 6, 7, 8, 9, 10] rfl, hW, hS, (show (p9 + 1) ≤ (vsN sg.2.1 w9).length from by omega), (show stS (BT (bb (vsN sg.2.1 v9)) (vsN sg.2.1 v9).length (bb (vsN sg.2.1 w9)) (vsN sg.2.1 w9).length size) size (p9 + 1) = (none, 0) from (md_l hst hB).2), (show ∀ i, i < (p9 + 1) → (upd g p9 (-1 : Int32)) i = difO (BT (bb (vsN sg.2.1 v9)) (vsN sg.2.1 v9).length (bb (vsN sg.2.1 w9)) (vsN sg.2.1 w9).length size) size i from upd_ok hg (md_l hst hB).1.symm)⟩
            · skip
              rw [hfs] at hl hbt
              have hB : (BT (bb (vsN sg.2.1 v9)) (vsN sg.2.1 v9).length (bb (vsN sg.2.1 w9)) (vsN sg.2.1 w9).length size) p9 none = some b9 := hbt
              have hl : lv_has ls 11 [(9, .int (nI b9)), (10, .int (nI 0)), (8, .int (nI p9)), (7, .int (-1 : Int32)), (0, .ref (b 0)), (1, .int (nI v9)), (2, .int (nI w9)), (3, .int (nI size)), (4, .ref (mA w 0 v9)), (5, .ref (mA w 0 w9)), (6, .ref q74)] := hl
              have hb8 := btc_lt hB
              have hb7 := z_blk hb8
              have hb6 : (b9 + 1) * size = b9 * size + size := Nat.succ_mul b9 size
              refine lv_iload hx hb dX3_difference_174 (lv_at hl 0 rfl) ?_
              refine lv_iconst (v := (-1 : Int32)) hx hb dX3_difference_176 (by decide) ?_
              refine lv_icmp_ne (tgt := 192) hx hb dX3_difference_177 (by decide) (fun hc177 => ?_) (fun hc177 => ?_)
              · skip
                have hc177 : ¬ (nI b9) = (-1 : Int32) := hc177
                refine lv_iconst (v := nI 0) hx hb dX3_difference_192 (by decide) ?_
                refine lv_istore (lv' := [(10, .int (nI 0)), (9, .int (nI b9)), (8, .int (nI p9)), (7, .int (-1 : Int32)), (0, .ref (b 0)), (1, .int (nI v9)), (2, .int (nI w9)), (3, .int (nI size)), (4, .ref (mA w 0 v9)), (5, .ref (mA w 0 w9)), (6, .ref q74)]) hx hb dX3_difference_193 hl (by decide) rfl (fun ls hl => ?_)
                refine z_loopM (σ := Nat × (Nat → Int32)) (fun q9 => size - q9.1) (fun q9 ls H locs => lv_has ls 11 [(10, .int (nI q9.1)), (9, .int (nI b9)), (8, .int (nI p9)), (0, .ref (b 0)), (1, .int (nI v9)), (2, .int (nI w9)), (3, .int (nI size)), (4, .ref (mA w 0 v9)), (5, .ref (mA w 0 w9)), (6, .ref q74)] ∧ Wd D S0 (((b 0), .inr (4, [.int (nI 0), .int (nI sg.1.length), .ref (b 1), .int (nI sg.2.1.length), .ref (b 2), .int (nI sg.2.2.1.length), .ref (b 3), .ref (b 4), .ref (b 5), .ref (mI w), .int (nI sg.2.2.2.2.length), .ref (b 6)])) :: ((b 1), fa cs 400 (mf w)) :: ((b 2), qa cs 2 12 (mg w 0)) :: ((b 3), qa cs 2 12 (mg w 1)) :: ((b 4), qa cs 2 12 (mg w 2)) :: ((b 5), qa cs 2 12 (mg w 3)) :: ((b 6), qa cs 2 20 (mg w 4)) :: (q74, fa cs ((vsN sg.2.1 w9).length) q9.2) :: Z) H ∧ va_S (SA S0) s.heap H locs ∧ (q9.1 ≤ size) ∧ (∀ i, i < p9 + q9.1 → q9.2 i = difO (BT (bb (vsN sg.2.1 v9)) (vsN sg.2.1 v9).length (bb (vsN sg.2.1 w9)) (vsN sg.2.1 w9).length size) size i)) (0, g) ⟨lv_sub hl [0, 1, 2, 4, 5, 6, 7, 8, 9, 10] rfl, hW, hS, (show 0 ≤ size from Nat.zero_le _), (show ∀ i, i < p9 + 0 → g i = difO (BT (bb (vsN sg.2.1 v9)) (vsN sg.2.1 v9).length (bb (vsN sg.2.1 w9)) (vsN sg.2.1 w9).length size) size i from hg)⟩ (fun dd195 ih195 y9 ls H locs hd9 hI9 => ?_)
                obtain ⟨k, g2⟩ := y9
                have hd195 : size - k = dd195 := hd9
                have hI9 : lv_has ls 11 [(10, .int (nI k)), (9, .int (nI b9)), (8, .int (nI p9)), (0, .ref (b 0)), (1, .int (nI v9)), (2, .int (nI w9)), (3, .int (nI size)), (4, .ref (mA w 0 v9)), (5, .ref (mA w 0 w9)), (6, .ref q74)] ∧ Wd D S0 (((b 0), .inr (4, [.int (nI 0), .int (nI sg.1.length), .ref (b 1), .int (nI sg.2.1.length), .ref (b 2), .int (nI sg.2.2.1.length), .ref (b 3), .ref (b 4), .ref (b 5), .ref (mI w), .int (nI sg.2.2.2.2.length), .ref (b 6)])) :: ((b 1), fa cs 400 (mf w)) :: ((b 2), qa cs 2 12 (mg w 0)) :: ((b 3), qa cs 2 12 (mg w 1)) :: ((b 4), qa cs 2 12 (mg w 2)) :: ((b 5), qa cs 2 12 (mg w 3)) :: ((b 6), qa cs 2 20 (mg w 4)) :: (q74, fa cs ((vsN sg.2.1 w9).length) g2) :: Z) H ∧ va_S (SA S0) s.heap H locs ∧ (k ≤ size) ∧ (∀ i, i < p9 + k → g2 i = difO (BT (bb (vsN sg.2.1 v9)) (vsN sg.2.1 v9).length (bb (vsN sg.2.1 w9)) (vsN sg.2.1 w9).length size) size i) := hI9
                obtain ⟨hl, hW, hS, hk, hg2⟩ := hI9
                refine lv_iload hx hb dX3_difference_195 (lv_at hl 0 rfl) ?_
                refine lv_iload_n hx hb dX3_difference_197 rfl (lv_at hl 6 rfl) ?_
                refine z_icmp_ge (tgt := 222) hx hb (by omega) (by omega) dX3_difference_198 (by decide) (fun hc198 => ?_) (fun hc198 => ?_)
                · skip
                  have hc198 : size ≤ k := hc198
                  have e9 : k = size := by omega
                  rw [e9] at hg2
                  refine lv_iload hx hb dX3_difference_222 (lv_at hl 2 rfl) ?_
                  refine lv_iload_n hx hb dX3_difference_224 rfl (lv_at hl 6 rfl) ?_
                  refine lv_iadd hx hb dX3_difference_225 ?_
                  refine zti (nI_add _ _) (y := nI (p9 + size)) ?_
                  refine lv_istore (lv' := [(8, .int (nI (p9 + size))), (10, .int (nI k)), (9, .int (nI b9)), (0, .ref (b 0)), (1, .int (nI v9)), (2, .int (nI w9)), (3, .int (nI size)), (4, .ref (mA w 0 v9)), (5, .ref (mA w 0 w9)), (6, .ref q74)]) hx hb dX3_difference_226 hl (by decide) rfl (fun ls hl => ?_)
                  refine lv_iload hx hb dX3_difference_228 (lv_at hl 2 rfl) ?_
                  refine lv_istore (lv' := [(7, .int (nI b9)), (8, .int (nI (p9 + size))), (10, .int (nI k)), (9, .int (nI b9)), (0, .ref (b 0)), (1, .int (nI v9)), (2, .int (nI w9)), (3, .int (nI size)), (4, .ref (mA w 0 v9)), (5, .ref (mA w 0 w9)), (6, .ref q74)]) hx hb dX3_difference_230 hl (by decide) rfl (fun ls hl => ?_)
                  refine lv_goto (tgt := 84) hx hb dX3_difference_232 (by decide) ?_
                  exact ih84 ((p9 + size), (some b9), g2) ls H locs (show (vsN sg.2.1 w9).length - (p9 + size) < dd84 by omega) ⟨lv_sub hl [1, 0, 4, 5, 6, 7, 8, 9, 10] rfl, hW, hS, (show (p9 + size) ≤ (vsN sg.2.1 w9).length from by omega), (show stS (BT (bb (vsN sg.2.1 v9)) (vsN sg.2.1 v9).length (bb (vsN sg.2.1 w9)) (vsN sg.2.1 w9).length size) size (p9 + size) = ((some b9), 0) from blk_en (by omega) hst hB), (show ∀ i, i < (p9 + size) → g2 i = difO (BT (bb (vsN sg.2.1 v9)) (vsN sg.2.1 v9).length (bb (vsN sg.2.1 w9)) (vsN sg.2.1 w9).length size) size i from hg2)⟩
                · skip
                  have hc198 : k < size := hc198
                  refine lv_aload hx hb dX3_difference_201 (lv_at hl 9 rfl) ?_
                  refine lv_iload hx hb dX3_difference_203 (lv_at hl 2 rfl) ?_
                  refine lv_iload hx hb dX3_difference_205 (lv_at hl 0 rfl) ?_
                  refine lv_iadd hx hb dX3_difference_207 ?_
                  refine zti (nI_add _ _) (y := nI (p9 + k)) ?_
                  refine lv_iload hx hb dX3_difference_208 (lv_at hl 1 rfl) ?_
                  refine lv_iload_n hx hb dX3_difference_210 rfl (lv_at hl 6 rfl) ?_
                  refine lv_imul hx hb dX3_difference_211 ?_
                  refine zti (pk_mul _ _) (y := nI (b9 * size)) ?_
                  refine lv_iload hx hb dX3_difference_212 (lv_at hl 0 rfl) ?_
                  refine lv_iadd hx hb dX3_difference_214 ?_
                  refine zti (nI_add _ _) (y := nI (b9 * size + k)) ?_
                  refine z_iast (k := (p9 + k)) (x := nI (b9 * size + k)) (n := ((vsN sg.2.1 w9).length)) (f := g2) hx hb hK hW hS 7 rfl (by omega) (by omega) dX3_difference_215 (fun H locs hW hS => ?_)
                  have hW : Wd D S0 (((b 0), .inr (4, [.int (nI 0), .int (nI sg.1.length), .ref (b 1), .int (nI sg.2.1.length), .ref (b 2), .int (nI sg.2.2.1.length), .ref (b 3), .ref (b 4), .ref (b 5), .ref (mI w), .int (nI sg.2.2.2.2.length), .ref (b 6)])) :: ((b 1), fa cs 400 (mf w)) :: ((b 2), qa cs 2 12 (mg w 0)) :: ((b 3), qa cs 2 12 (mg w 1)) :: ((b 4), qa cs 2 12 (mg w 2)) :: ((b 5), qa cs 2 12 (mg w 3)) :: ((b 6), qa cs 2 20 (mg w 4)) :: (q74, fa cs ((vsN sg.2.1 w9).length) (upd g2 (p9 + k) (nI (b9 * size + k)))) :: Z) H := hW
                  refine lv_iinc (v := nI (k + 1)) (lv' := [(10, .int (nI (k + 1))), (9, .int (nI b9)), (8, .int (nI p9)), (0, .ref (b 0)), (1, .int (nI v9)), (2, .int (nI w9)), (3, .int (nI size)), (4, .ref (mA w 0 v9)), (5, .ref (mA w 0 w9)), (6, .ref q74)]) hx hb dX3_difference_216 hl (k := 0) rfl (z_inc _) (by decide) rfl (fun ls hl => ?_)
                  refine lv_goto (tgt := 195) hx hb dX3_difference_219 (by decide) ?_
                  exact ih195 ((k + 1), (upd g2 (p9 + k) (nI (b9 * size + k)))) ls H locs (show size - (k + 1) < dd195 by omega) ⟨lv_sub hl [0, 1, 2, 3, 4, 5, 6, 7, 8, 9] rfl, hW, hS, (show (k + 1) ≤ size from by omega), (show ∀ i, i < p9 + (k + 1) → (upd g2 (p9 + k) (nI (b9 * size + k))) i = difO (BT (bb (vsN sg.2.1 v9)) (vsN sg.2.1 v9).length (bb (vsN sg.2.1 w9)) (vsN sg.2.1 w9).length size) size i from upd_ok hg2 (blk_st hdz hst hB k hc198).1.symm)⟩
              · skip
                have hc177 : (nI b9) = (-1 : Int32) := hc177
                exact absurd hc177 (z_nm1 (by omega))
          · skip
            have hc108 : ¬ (-1 : Int32) = (-1 : Int32) := hc108
            exact absurd rfl hc108
        · skip
          have hl : lv_has ls 11 [(9, .int (-1 : Int32)), (8, .int (nI p9)), (7, .int (nI q8)), (0, .ref (b 0)), (1, .int (nI v9)), (2, .int (nI w9)), (3, .int (nI size)), (4, .ref (mA w 0 v9)), (5, .ref (mA w 0 w9)), (6, .ref q74)] := hl
          have hq8 := hs1 q8 rfl
          refine lv_iload hx hb dX3_difference_105 (lv_at hl 2 rfl) ?_
          refine lv_iconst (v := (-1 : Int32)) hx hb dX3_difference_107 (by decide) ?_
          refine lv_icmp_eq (tgt := 146) hx hb dX3_difference_108 (by decide) (fun hc108 => ?_) (fun hc108 => ?_)
          · skip
            have hc108 : (nI q8) = (-1 : Int32) := hc108
            exact absurd hc108 (z_nm1 (by omega))
          · skip
            have hc108 : ¬ (nI q8) = (-1 : Int32) := hc108
            refine lv_iload hx hb dX3_difference_111 (lv_at hl 2 rfl) ?_
            refine lv_iconst (v := nI 1) hx hb dX3_difference_113 (by decide) ?_
            refine lv_iadd hx hb dX3_difference_114 ?_
            refine zti (nI_add _ _) (y := nI (q8 + 1)) ?_
            refine lv_aload hx hb dX3_difference_115 (lv_at hl 7 rfl) ?_
            refine z_alen (n := ((vsN sg.2.1 v9).length)) hx hb hK (hW.mem (List.mem_cons_of_mem _ (List.mem_cons_of_mem _ (List.mem_cons_of_mem _ (List.mem_cons_of_mem _ (List.mem_cons_of_mem _ (List.mem_cons_of_mem _ (List.mem_cons_of_mem _ (List.mem_cons_of_mem _ (hF.2.1 v9 hv9).2))))))))) dX3_difference_117 ?_
            refine lv_iload_n hx hb dX3_difference_118 rfl (lv_at hl 6 rfl) ?_
            refine lv_idiv hx hb dX3_difference_119 (nI_ne0 (by omega) (by omega)) ?_
            refine zti (pk_div (by omega) (by omega) (by omega)) (y := nI (((vsN sg.2.1 v9).length) / size)) ?_
            refine z_icmp_ge (tgt := 146) hx hb (by omega) (by omega) dX3_difference_120 (by decide) (fun hc120 => ?_) (fun hc120 => ?_)
            · skip
              have hc120 : ((vsN sg.2.1 v9).length) / size ≤ q8 + 1 := hc120
              have hbt : btc (bb (vsN sg.2.1 v9)) (vsN sg.2.1 v9).length (bb (vsN sg.2.1 w9)) (vsN sg.2.1 w9).length p9 size (some q8) = _ := btc_s1 (by omega) (by omega)
              refine lv_iconst (v := nI 0) hx hb dX3_difference_146 (by decide) ?_
              refine lv_istore (lv' := [(10, .int (nI 0)), (9, .int (-1 : Int32)), (8, .int (nI p9)), (7, .int (nI q8)), (0, .ref (b 0)), (1, .int (nI v9)), (2, .int (nI w9)), (3, .int (nI size)), (4, .ref (mA w 0 v9)), (5, .ref (mA w 0 w9)), (6, .ref q74)]) hx hb dX3_difference_147 hl (by decide) rfl (fun ls hl => ?_)
              refine lv_iload hx hb dX3_difference_149 (lv_at hl 0 rfl) ?_
              refine lv_if_eq (tgt := 161) hx hb dX3_difference_151 (by decide) (fun _ => ?_) (fun h9 => absurd (by decide) h9)
              refine lv_aload hx hb dX3_difference_161 (lv_at hl 8 rfl) ?_
              refine lv_iload_n hx hb dX3_difference_163 rfl (lv_at hl 7 rfl) ?_
              refine lv_aload hx hb dX3_difference_164 (lv_at hl 9 rfl) ?_
              refine lv_iload hx hb dX3_difference_166 (lv_at hl 2 rfl) ?_
              refine lv_iconst (v := nI 0) hx hb dX3_difference_168 (by decide) ?_
              refine z_csS (As := [.ref (mA w 0 v9), .int (nI size), .ref (mA w 0 w9), .int (nI p9), .int (nI 0)]) (rest := []) ⟨hx, hb, hml, hown, hts⟩ (c_X3_blockLike l D cs (mA w 0 v9) (mA w 0 w9) (vsN sg.2.1 v9).length (vsN sg.2.1 w9).length (bb (vsN sg.2.1 v9)) (bb (vsN sg.2.1 w9)) p9 size h2 (by omega) (by omega) (by omega) (by omega)) (va_cwS 5 hts gX3_difference_X3_blockLike rfl rfl rfl (by decide +kernel) ⟨Nat.le_of_ble_eq_true rfl, Nat.le_of_ble_eq_true rfl⟩) ⟨(hW.mem (List.mem_cons_of_mem _ (List.mem_cons_of_mem _ (List.mem_cons_of_mem _ (List.mem_cons_of_mem _ (List.mem_cons_of_mem _ (List.mem_cons_of_mem _ (List.mem_cons_of_mem _ (List.mem_cons_of_mem _ (hF.2.1 v9 hv9).2))))))))), (hW.mem (List.mem_cons_of_mem _ (List.mem_cons_of_mem _ (List.mem_cons_of_mem _ (List.mem_cons_of_mem _ (List.mem_cons_of_mem _ (List.mem_cons_of_mem _ (List.mem_cons_of_mem _ (List.mem_cons_of_mem _ (hF.2.1 w9 hw9).2)))))))))⟩ hK rfl hl.1 rfl (Nat.le_of_ble_eq_true rfl) dX3_difference_169 ⟨(by rw [hRc]; omega), (by rw [hRs]; omega)⟩ (fun r hq9 => ?_)
              have hq9 : r = oI (fsF (fun z => stB (bb (vsN sg.2.1 v9)) (bb (vsN sg.2.1 w9)) (z * size) p9 size) ((vsN sg.2.1 v9).length / size)) := hq9
              subst hq9
              refine lv_istore (lv' := [(9, .int (oI (fsF (fun z => stB (bb (vsN sg.2.1 v9)) (bb (vsN sg.2.1 w9)) (z * size) p9 size) ((vsN sg.2.1 v9).length / size)))), (10, .int (nI 0)), (8, .int (nI p9)), (7, .int (nI q8)), (0, .ref (b 0)), (1, .int (nI v9)), (2, .int (nI w9)), (3, .int (nI size)), (4, .ref (mA w 0 v9)), (5, .ref (mA w 0 w9)), (6, .ref q74)]) hx hb dX3_difference_172 hl (by decide) rfl (fun ls hl => ?_)
              have hB9 := hbt
              rcases hfs : fsF (fun z => stB (bb (vsN sg.2.1 v9)) (bb (vsN sg.2.1 w9)) (z * size) p9 size) ((vsN sg.2.1 v9).length / size) with _ | b9
              · skip
                rw [hfs] at hl hbt
                have hB : (BT (bb (vsN sg.2.1 v9)) (vsN sg.2.1 v9).length (bb (vsN sg.2.1 w9)) (vsN sg.2.1 w9).length size) p9 (some q8) = none := hbt
                have hl : lv_has ls 11 [(9, .int (-1 : Int32)), (10, .int (nI 0)), (8, .int (nI p9)), (7, .int (nI q8)), (0, .ref (b 0)), (1, .int (nI v9)), (2, .int (nI w9)), (3, .int (nI size)), (4, .ref (mA w 0 v9)), (5, .ref (mA w 0 w9)), (6, .ref q74)] := hl
                refine lv_iload hx hb dX3_difference_174 (lv_at hl 0 rfl) ?_
                refine lv_iconst (v := (-1 : Int32)) hx hb dX3_difference_176 (by decide) ?_
                refine lv_icmp_ne (tgt := 192) hx hb dX3_difference_177 (by decide) (fun hc177 => ?_) (fun hc177 => ?_)
                · skip
                  have hc177 : ¬ (-1 : Int32) = (-1 : Int32) := hc177
                  exact absurd rfl hc177
                · skip
                  have hc177 : (-1 : Int32) = (-1 : Int32) := hc177
                  refine lv_aload hx hb dX3_difference_180 (lv_at hl 10 rfl) ?_
                  refine lv_iload hx hb dX3_difference_182 (lv_at hl 2 rfl) ?_
                  refine lv_iconst (v := (-1 : Int32)) hx hb dX3_difference_184 (by decide) ?_
                  refine z_iast (k := p9) (x := (-1 : Int32)) (n := ((vsN sg.2.1 w9).length)) (f := g) hx hb hK hW hS 7 rfl (by omega) (by omega) dX3_difference_185 (fun H locs hW hS => ?_)
                  have hW : Wd D S0 (((b 0), .inr (4, [.int (nI 0), .int (nI sg.1.length), .ref (b 1), .int (nI sg.2.1.length), .ref (b 2), .int (nI sg.2.2.1.length), .ref (b 3), .ref (b 4), .ref (b 5), .ref (mI w), .int (nI sg.2.2.2.2.length), .ref (b 6)])) :: ((b 1), fa cs 400 (mf w)) :: ((b 2), qa cs 2 12 (mg w 0)) :: ((b 3), qa cs 2 12 (mg w 1)) :: ((b 4), qa cs 2 12 (mg w 2)) :: ((b 5), qa cs 2 12 (mg w 3)) :: ((b 6), qa cs 2 20 (mg w 4)) :: (q74, fa cs ((vsN sg.2.1 w9).length) (upd g p9 (-1 : Int32))) :: Z) H := hW
                  have hl : lv_has ls 11 [(9, .int (-1 : Int32)), (10, .int (nI 0)), (8, .int (nI p9)), (7, .int (oI (some q8))), (0, .ref (b 0)), (1, .int (nI v9)), (2, .int (nI w9)), (3, .int (nI size)), (4, .ref (mA w 0 v9)), (5, .ref (mA w 0 w9)), (6, .ref q74)] := hl
                  refine lv_iinc (v := nI (p9 + 1)) (lv' := [(8, .int (nI (p9 + 1))), (9, .int (-1 : Int32)), (10, .int (nI 0)), (7, .int (oI (some q8))), (0, .ref (b 0)), (1, .int (nI v9)), (2, .int (nI w9)), (3, .int (nI size)), (4, .ref (mA w 0 v9)), (5, .ref (mA w 0 w9)), (6, .ref q74)]) hx hb dX3_difference_186 hl (k := 2) rfl (z_inc _) (by decide) rfl (fun ls hl => ?_)
                  refine lv_goto (tgt := 84) hx hb dX3_difference_189 (by decide) ?_
                  exact ih84 ((p9 + 1), (some q8), (upd g p9 (-1 : Int32))) ls H locs (show (vsN sg.2.1 w9).length - (p9 + 1) < dd84 by omega) ⟨lv_sub hl [0, 3, 4, 5, 6, 7, 8, 9, 10] rfl, hW, hS, (show (p9 + 1) ≤ (vsN sg.2.1 w9).length from by omega), (show stS (BT (bb (vsN sg.2.1 v9)) (vsN sg.2.1 v9).length (bb (vsN sg.2.1 w9)) (vsN sg.2.1 w9).length size) size (p9 + 1) = ((some q8), 0) from (md_l hst hB).2), (show ∀ i, i < (p9 + 1) → (upd g p9 (-1 : Int32)) i = difO (BT (bb (vsN sg.2.1 v9)) (vsN sg.2.1 v9).length (bb (vsN sg.2.1 w9)) (vsN sg.2.1 w9).length size) size i from upd_ok hg (md_l hst hB).1.symm)⟩
              · skip
                rw [hfs] at hl hbt
                have hB : (BT (bb (vsN sg.2.1 v9)) (vsN sg.2.1 v9).length (bb (vsN sg.2.1 w9)) (vsN sg.2.1 w9).length size) p9 (some q8) = some b9 := hbt
                have hl : lv_has ls 11 [(9, .int (nI b9)), (10, .int (nI 0)), (8, .int (nI p9)), (7, .int (nI q8)), (0, .ref (b 0)), (1, .int (nI v9)), (2, .int (nI w9)), (3, .int (nI size)), (4, .ref (mA w 0 v9)), (5, .ref (mA w 0 w9)), (6, .ref q74)] := hl
                have hb8 := btc_lt hB
                have hb7 := z_blk hb8
                have hb6 : (b9 + 1) * size = b9 * size + size := Nat.succ_mul b9 size
                refine lv_iload hx hb dX3_difference_174 (lv_at hl 0 rfl) ?_
                refine lv_iconst (v := (-1 : Int32)) hx hb dX3_difference_176 (by decide) ?_
                refine lv_icmp_ne (tgt := 192) hx hb dX3_difference_177 (by decide) (fun hc177 => ?_) (fun hc177 => ?_)
                · skip
                  have hc177 : ¬ (nI b9) = (-1 : Int32) := hc177
                  refine lv_iconst (v := nI 0) hx hb dX3_difference_192 (by decide) ?_
                  refine lv_istore (lv' := [(10, .int (nI 0)), (9, .int (nI b9)), (8, .int (nI p9)), (7, .int (nI q8)), (0, .ref (b 0)), (1, .int (nI v9)), (2, .int (nI w9)), (3, .int (nI size)), (4, .ref (mA w 0 v9)), (5, .ref (mA w 0 w9)), (6, .ref q74)]) hx hb dX3_difference_193 hl (by decide) rfl (fun ls hl => ?_)
                  refine z_loopM (σ := Nat × (Nat → Int32)) (fun q9 => size - q9.1) (fun q9 ls H locs => lv_has ls 11 [(10, .int (nI q9.1)), (9, .int (nI b9)), (8, .int (nI p9)), (0, .ref (b 0)), (1, .int (nI v9)), (2, .int (nI w9)), (3, .int (nI size)), (4, .ref (mA w 0 v9)), (5, .ref (mA w 0 w9)), (6, .ref q74)] ∧ Wd D S0 (((b 0), .inr (4, [.int (nI 0), .int (nI sg.1.length), .ref (b 1), .int (nI sg.2.1.length), .ref (b 2), .int (nI sg.2.2.1.length), .ref (b 3), .ref (b 4), .ref (b 5), .ref (mI w), .int (nI sg.2.2.2.2.length), .ref (b 6)])) :: ((b 1), fa cs 400 (mf w)) :: ((b 2), qa cs 2 12 (mg w 0)) :: ((b 3), qa cs 2 12 (mg w 1)) :: ((b 4), qa cs 2 12 (mg w 2)) :: ((b 5), qa cs 2 12 (mg w 3)) :: ((b 6), qa cs 2 20 (mg w 4)) :: (q74, fa cs ((vsN sg.2.1 w9).length) q9.2) :: Z) H ∧ va_S (SA S0) s.heap H locs ∧ (q9.1 ≤ size) ∧ (∀ i, i < p9 + q9.1 → q9.2 i = difO (BT (bb (vsN sg.2.1 v9)) (vsN sg.2.1 v9).length (bb (vsN sg.2.1 w9)) (vsN sg.2.1 w9).length size) size i)) (0, g) ⟨lv_sub hl [0, 1, 2, 4, 5, 6, 7, 8, 9, 10] rfl, hW, hS, (show 0 ≤ size from Nat.zero_le _), (show ∀ i, i < p9 + 0 → g i = difO (BT (bb (vsN sg.2.1 v9)) (vsN sg.2.1 v9).length (bb (vsN sg.2.1 w9)) (vsN sg.2.1 w9).length size) size i from hg)⟩ (fun dd195 ih195 y9 ls H locs hd9 hI9 => ?_)
                  obtain ⟨k, g2⟩ := y9
                  have hd195 : size - k = dd195 := hd9
                  have hI9 : lv_has ls 11 [(10, .int (nI k)), (9, .int (nI b9)), (8, .int (nI p9)), (0, .ref (b 0)), (1, .int (nI v9)), (2, .int (nI w9)), (3, .int (nI size)), (4, .ref (mA w 0 v9)), (5, .ref (mA w 0 w9)), (6, .ref q74)] ∧ Wd D S0 (((b 0), .inr (4, [.int (nI 0), .int (nI sg.1.length), .ref (b 1), .int (nI sg.2.1.length), .ref (b 2), .int (nI sg.2.2.1.length), .ref (b 3), .ref (b 4), .ref (b 5), .ref (mI w), .int (nI sg.2.2.2.2.length), .ref (b 6)])) :: ((b 1), fa cs 400 (mf w)) :: ((b 2), qa cs 2 12 (mg w 0)) :: ((b 3), qa cs 2 12 (mg w 1)) :: ((b 4), qa cs 2 12 (mg w 2)) :: ((b 5), qa cs 2 12 (mg w 3)) :: ((b 6), qa cs 2 20 (mg w 4)) :: (q74, fa cs ((vsN sg.2.1 w9).length) g2) :: Z) H ∧ va_S (SA S0) s.heap H locs ∧ (k ≤ size) ∧ (∀ i, i < p9 + k → g2 i = difO (BT (bb (vsN sg.2.1 v9)) (vsN sg.2.1 v9).length (bb (vsN sg.2.1 w9)) (vsN sg.2.1 w9).length size) size i) := hI9
                  obtain ⟨hl, hW, hS, hk, hg2⟩ := hI9
                  refine lv_iload hx hb dX3_difference_195 (lv_at hl 0 rfl) ?_
                  refine lv_iload_n hx hb dX3_difference_197 rfl (lv_at hl 6 rfl) ?_
                  refine z_icmp_ge (tgt := 222) hx hb (by omega) (by omega) dX3_difference_198 (by decide) (fun hc198 => ?_) (fun hc198 => ?_)
                  · skip
                    have hc198 : size ≤ k := hc198
                    have e9 : k = size := by omega
                    rw [e9] at hg2
                    refine lv_iload hx hb dX3_difference_222 (lv_at hl 2 rfl) ?_
                    refine lv_iload_n hx hb dX3_difference_224 rfl (lv_at hl 6 rfl) ?_
                    refine lv_iadd hx hb dX3_difference_225 ?_
                    refine zti (nI_add _ _) (y := nI (p9 + size)) ?_
                    refine lv_istore (lv' := [(8, .int (nI (p9 + size))), (10, .int (nI k)), (9, .int (nI b9)), (0, .ref (b 0)), (1, .int (nI v9)), (2, .int (nI w9)), (3, .int (nI size)), (4, .ref (mA w 0 v9)), (5, .ref (mA w 0 w9)), (6, .ref q74)]) hx hb dX3_difference_226 hl (by decide) rfl (fun ls hl => ?_)
                    refine lv_iload hx hb dX3_difference_228 (lv_at hl 2 rfl) ?_
                    refine lv_istore (lv' := [(7, .int (nI b9)), (8, .int (nI (p9 + size))), (10, .int (nI k)), (9, .int (nI b9)), (0, .ref (b 0)), (1, .int (nI v9)), (2, .int (nI w9)), (3, .int (nI size)), (4, .ref (mA w 0 v9)), (5, .ref (mA w 0 w9)), (6, .ref q74)]) hx hb dX3_difference_230 hl (by decide) rfl (fun ls hl => ?_)
                    refine lv_goto (tgt := 84) hx hb dX3_difference_232 (by decide) ?_
                    exact ih84 ((p9 + size), (some b9), g2) ls H locs (show (vsN sg.2.1 w9).length - (p9 + size) < dd84 by omega) ⟨lv_sub hl [1, 0, 4, 5, 6, 7, 8, 9, 10] rfl, hW, hS, (show (p9 + size) ≤ (vsN sg.2.1 w9).length from by omega), (show stS (BT (bb (vsN sg.2.1 v9)) (vsN sg.2.1 v9).length (bb (vsN sg.2.1 w9)) (vsN sg.2.1 w9).length size) size (p9 + size) = ((some b9), 0) from blk_en (by omega) hst hB), (show ∀ i, i < (p9 + size) → g2 i = difO (BT (bb (vsN sg.2.1 v9)) (vsN sg.2.1 v9).length (bb (vsN sg.2.1 w9)) (vsN sg.2.1 w9).length size) size i from hg2)⟩
                  · skip
                    have hc198 : k < size := hc198
                    refine lv_aload hx hb dX3_difference_201 (lv_at hl 9 rfl) ?_
                    refine lv_iload hx hb dX3_difference_203 (lv_at hl 2 rfl) ?_
                    refine lv_iload hx hb dX3_difference_205 (lv_at hl 0 rfl) ?_
                    refine lv_iadd hx hb dX3_difference_207 ?_
                    refine zti (nI_add _ _) (y := nI (p9 + k)) ?_
                    refine lv_iload hx hb dX3_difference_208 (lv_at hl 1 rfl) ?_
                    refine lv_iload_n hx hb dX3_difference_210 rfl (lv_at hl 6 rfl) ?_
                    refine lv_imul hx hb dX3_difference_211 ?_
                    refine zti (pk_mul _ _) (y := nI (b9 * size)) ?_
                    refine lv_iload hx hb dX3_difference_212 (lv_at hl 0 rfl) ?_
                    refine lv_iadd hx hb dX3_difference_214 ?_
                    refine zti (nI_add _ _) (y := nI (b9 * size + k)) ?_
                    refine z_iast (k := (p9 + k)) (x := nI (b9 * size + k)) (n := ((vsN sg.2.1 w9).length)) (f := g2) hx hb hK hW hS 7 rfl (by omega) (by omega) dX3_difference_215 (fun H locs hW hS => ?_)
                    have hW : Wd D S0 (((b 0), .inr (4, [.int (nI 0), .int (nI sg.1.length), .ref (b 1), .int (nI sg.2.1.length), .ref (b 2), .int (nI sg.2.2.1.length), .ref (b 3), .ref (b 4), .ref (b 5), .ref (mI w), .int (nI sg.2.2.2.2.length), .ref (b 6)])) :: ((b 1), fa cs 400 (mf w)) :: ((b 2), qa cs 2 12 (mg w 0)) :: ((b 3), qa cs 2 12 (mg w 1)) :: ((b 4), qa cs 2 12 (mg w 2)) :: ((b 5), qa cs 2 12 (mg w 3)) :: ((b 6), qa cs 2 20 (mg w 4)) :: (q74, fa cs ((vsN sg.2.1 w9).length) (upd g2 (p9 + k) (nI (b9 * size + k)))) :: Z) H := hW
                    refine lv_iinc (v := nI (k + 1)) (lv' := [(10, .int (nI (k + 1))), (9, .int (nI b9)), (8, .int (nI p9)), (0, .ref (b 0)), (1, .int (nI v9)), (2, .int (nI w9)), (3, .int (nI size)), (4, .ref (mA w 0 v9)), (5, .ref (mA w 0 w9)), (6, .ref q74)]) hx hb dX3_difference_216 hl (k := 0) rfl (z_inc _) (by decide) rfl (fun ls hl => ?_)
                    refine lv_goto (tgt := 195) hx hb dX3_difference_219 (by decide) ?_
                    exact ih195 ((k + 1), (upd g2 (p9 + k) (nI (b9 * size + k)))) ls H locs (show size - (k + 1) < dd195 by omega) ⟨lv_sub hl [0, 1, 2, 3, 4, 5, 6, 7, 8, 9] rfl, hW, hS, (show (k + 1) ≤ size from by omega), (show ∀ i, i < p9 + (k + 1) → (upd g2 (p9 + k) (nI (b9 * size + k))) i = difO (BT (bb (vsN sg.2.1 v9)) (vsN sg.2.1 v9).length (bb (vsN sg.2.1 w9)) (vsN sg.2.1 w9).length size) size i from upd_ok hg2 (blk_st hdz hst hB k hc198).1.symm)⟩
                · skip
                  have hc177 : (nI b9) = (-1 : Int32) := hc177
                  exact absurd hc177 (z_nm1 (by omega))
            · skip
              have hc120 : q8 + 1 < ((vsN sg.2.1 v9).length) / size := hc120
              refine lv_aload hx hb dX3_difference_123 (lv_at hl 7 rfl) ?_
              refine lv_iload hx hb dX3_difference_125 (lv_at hl 2 rfl) ?_
              refine lv_iconst (v := nI 1) hx hb dX3_difference_127 (by decide) ?_
              refine lv_iadd hx hb dX3_difference_128 ?_
              refine zti (nI_add _ _) (y := nI (q8 + 1)) ?_
              refine lv_iload_n hx hb dX3_difference_129 rfl (lv_at hl 6 rfl) ?_
              refine lv_imul hx hb dX3_difference_130 ?_
              refine zti (pk_mul _ _) (y := nI ((q8 + 1) * size)) ?_
              refine lv_aload hx hb dX3_difference_131 (lv_at hl 8 rfl) ?_
              refine lv_iload hx hb dX3_difference_133 (lv_at hl 1 rfl) ?_
              refine lv_iload_n hx hb dX3_difference_135 rfl (lv_at hl 6 rfl) ?_
              have hkb := z_blk hc120
              refine z_csS (As := [.ref (mA w 0 v9), .int (nI ((q8 + 1) * size)), .ref (mA w 0 w9), .int (nI p9), .int (nI size)]) (rest := []) ⟨hx, hb, hml, hown, hts⟩ (c_X3_isLike l D cs (mA w 0 v9) (mA w 0 w9) (vsN sg.2.1 v9).length (vsN sg.2.1 w9).length (bb (vsN sg.2.1 v9)) (bb (vsN sg.2.1 w9)) ((q8 + 1) * size) p9 size hkb (by omega) (by omega) (by omega)) (va_cwS 5 hts gX3_difference_X3_isLike rfl rfl rfl (by decide +kernel) ⟨Nat.le_of_ble_eq_true rfl, Nat.le_of_ble_eq_true rfl⟩) ⟨(hW.mem (List.mem_cons_of_mem _ (List.mem_cons_of_mem _ (List.mem_cons_of_mem _ (List.mem_cons_of_mem _ (List.mem_cons_of_mem _ (List.mem_cons_of_mem _ (List.mem_cons_of_mem _ (List.mem_cons_of_mem _ (hF.2.1 v9 hv9).2))))))))), (hW.mem (List.mem_cons_of_mem _ (List.mem_cons_of_mem _ (List.mem_cons_of_mem _ (List.mem_cons_of_mem _ (List.mem_cons_of_mem _ (List.mem_cons_of_mem _ (List.mem_cons_of_mem _ (List.mem_cons_of_mem _ (hF.2.1 w9 hw9).2)))))))))⟩ hK rfl hl.1 rfl (Nat.le_of_ble_eq_true rfl) dX3_difference_136 ⟨(by rw [hRc]; omega), (by rw [hRs]; omega)⟩ (fun r hq9 => ?_)
              have hq9 : r = bI (stB (bb (vsN sg.2.1 v9)) (bb (vsN sg.2.1 w9)) ((q8 + 1) * size) p9 size) := hq9
              subst hq9
              refine z_ifb_eq (tgt := 146) hx hb dX3_difference_139 (by decide) (fun hc139 => ?_) (fun hc139 => ?_)
              · skip
                have hc139 : (stB (bb (vsN sg.2.1 v9)) (bb (vsN sg.2.1 w9)) ((q8 + 1) * size) p9 size) = false := hc139
                have hbt : btc (bb (vsN sg.2.1 v9)) (vsN sg.2.1 v9).length (bb (vsN sg.2.1 w9)) (vsN sg.2.1 w9).length p9 size (some q8) = _ := btc_s2 (by omega) hc139
                refine lv_iconst (v := nI 0) hx hb dX3_difference_146 (by decide) ?_
                refine lv_istore (lv' := [(10, .int (nI 0)), (9, .int (-1 : Int32)), (8, .int (nI p9)), (7, .int (nI q8)), (0, .ref (b 0)), (1, .int (nI v9)), (2, .int (nI w9)), (3, .int (nI size)), (4, .ref (mA w 0 v9)), (5, .ref (mA w 0 w9)), (6, .ref q74)]) hx hb dX3_difference_147 hl (by decide) rfl (fun ls hl => ?_)
                refine lv_iload hx hb dX3_difference_149 (lv_at hl 0 rfl) ?_
                refine lv_if_eq (tgt := 161) hx hb dX3_difference_151 (by decide) (fun _ => ?_) (fun h9 => absurd (by decide) h9)
                refine lv_aload hx hb dX3_difference_161 (lv_at hl 8 rfl) ?_
                refine lv_iload_n hx hb dX3_difference_163 rfl (lv_at hl 7 rfl) ?_
                refine lv_aload hx hb dX3_difference_164 (lv_at hl 9 rfl) ?_
                refine lv_iload hx hb dX3_difference_166 (lv_at hl 2 rfl) ?_
                refine lv_iconst (v := nI 0) hx hb dX3_difference_168 (by decide) ?_
                refine z_csS (As := [.ref (mA w 0 v9), .int (nI size), .ref (mA w 0 w9), .int (nI p9), .int (nI 0)]) (rest := []) ⟨hx, hb, hml, hown, hts⟩ (c_X3_blockLike l D cs (mA w 0 v9) (mA w 0 w9) (vsN sg.2.1 v9).length (vsN sg.2.1 w9).length (bb (vsN sg.2.1 v9)) (bb (vsN sg.2.1 w9)) p9 size h2 (by omega) (by omega) (by omega) (by omega)) (va_cwS 5 hts gX3_difference_X3_blockLike rfl rfl rfl (by decide +kernel) ⟨Nat.le_of_ble_eq_true rfl, Nat.le_of_ble_eq_true rfl⟩) ⟨(hW.mem (List.mem_cons_of_mem _ (List.mem_cons_of_mem _ (List.mem_cons_of_mem _ (List.mem_cons_of_mem _ (List.mem_cons_of_mem _ (List.mem_cons_of_mem _ (List.mem_cons_of_mem _ (List.mem_cons_of_mem _ (hF.2.1 v9 hv9).2))))))))), (hW.mem (List.mem_cons_of_mem _ (List.mem_cons_of_mem _ (List.mem_cons_of_mem _ (List.mem_cons_of_mem _ (List.mem_cons_of_mem _ (List.mem_cons_of_mem _ (List.mem_cons_of_mem _ (List.mem_cons_of_mem _ (hF.2.1 w9 hw9).2)))))))))⟩ hK rfl hl.1 rfl (Nat.le_of_ble_eq_true rfl) dX3_difference_169 ⟨(by rw [hRc]; omega), (by rw [hRs]; omega)⟩ (fun r hq9 => ?_)
                have hq9 : r = oI (fsF (fun z => stB (bb (vsN sg.2.1 v9)) (bb (vsN sg.2.1 w9)) (z * size) p9 size) ((vsN sg.2.1 v9).length / size)) := hq9
                subst hq9
                refine lv_istore (lv' := [(9, .int (oI (fsF (fun z => stB (bb (vsN sg.2.1 v9)) (bb (vsN sg.2.1 w9)) (z * size) p9 size) ((vsN sg.2.1 v9).length / size)))), (10, .int (nI 0)), (8, .int (nI p9)), (7, .int (nI q8)), (0, .ref (b 0)), (1, .int (nI v9)), (2, .int (nI w9)), (3, .int (nI size)), (4, .ref (mA w 0 v9)), (5, .ref (mA w 0 w9)), (6, .ref q74)]) hx hb dX3_difference_172 hl (by decide) rfl (fun ls hl => ?_)
                have hB9 := hbt
                rcases hfs : fsF (fun z => stB (bb (vsN sg.2.1 v9)) (bb (vsN sg.2.1 w9)) (z * size) p9 size) ((vsN sg.2.1 v9).length / size) with _ | b9
                · skip
                  rw [hfs] at hl hbt
                  have hB : (BT (bb (vsN sg.2.1 v9)) (vsN sg.2.1 v9).length (bb (vsN sg.2.1 w9)) (vsN sg.2.1 w9).length size) p9 (some q8) = none := hbt
                  have hl : lv_has ls 11 [(9, .int (-1 : Int32)), (10, .int (nI 0)), (8, .int (nI p9)), (7, .int (nI q8)), (0, .ref (b 0)), (1, .int (nI v9)), (2, .int (nI w9)), (3, .int (nI size)), (4, .ref (mA w 0 v9)), (5, .ref (mA w 0 w9)), (6, .ref q74)] := hl
                  refine lv_iload hx hb dX3_difference_174 (lv_at hl 0 rfl) ?_
                  refine lv_iconst (v := (-1 : Int32)) hx hb dX3_difference_176 (by decide) ?_
                  refine lv_icmp_ne (tgt := 192) hx hb dX3_difference_177 (by decide) (fun hc177 => ?_) (fun hc177 => ?_)
                  · skip
                    have hc177 : ¬ (-1 : Int32) = (-1 : Int32) := hc177
                    exact absurd rfl hc177
                  · skip
                    have hc177 : (-1 : Int32) = (-1 : Int32) := hc177
                    refine lv_aload hx hb dX3_difference_180 (lv_at hl 10 rfl) ?_
                    refine lv_iload hx hb dX3_difference_182 (lv_at hl 2 rfl) ?_
                    refine lv_iconst (v := (-1 : Int32)) hx hb dX3_difference_184 (by decide) ?_
                    refine z_iast (k := p9) (x := (-1 : Int32)) (n := ((vsN sg.2.1 w9).length)) (f := g) hx hb hK hW hS 7 rfl (by omega) (by omega) dX3_difference_185 (fun H locs hW hS => ?_)
                    have hW : Wd D S0 (((b 0), .inr (4, [.int (nI 0), .int (nI sg.1.length), .ref (b 1), .int (nI sg.2.1.length), .ref (b 2), .int (nI sg.2.2.1.length), .ref (b 3), .ref (b 4), .ref (b 5), .ref (mI w), .int (nI sg.2.2.2.2.length), .ref (b 6)])) :: ((b 1), fa cs 400 (mf w)) :: ((b 2), qa cs 2 12 (mg w 0)) :: ((b 3), qa cs 2 12 (mg w 1)) :: ((b 4), qa cs 2 12 (mg w 2)) :: ((b 5), qa cs 2 12 (mg w 3)) :: ((b 6), qa cs 2 20 (mg w 4)) :: (q74, fa cs ((vsN sg.2.1 w9).length) (upd g p9 (-1 : Int32))) :: Z) H := hW
                    have hl : lv_has ls 11 [(9, .int (-1 : Int32)), (10, .int (nI 0)), (8, .int (nI p9)), (7, .int (oI (some q8))), (0, .ref (b 0)), (1, .int (nI v9)), (2, .int (nI w9)), (3, .int (nI size)), (4, .ref (mA w 0 v9)), (5, .ref (mA w 0 w9)), (6, .ref q74)] := hl
                    refine lv_iinc (v := nI (p9 + 1)) (lv' := [(8, .int (nI (p9 + 1))), (9, .int (-1 : Int32)), (10, .int (nI 0)), (7, .int (oI (some q8))), (0, .ref (b 0)), (1, .int (nI v9)), (2, .int (nI w9)), (3, .int (nI size)), (4, .ref (mA w 0 v9)), (5, .ref (mA w 0 w9)), (6, .ref q74)]) hx hb dX3_difference_186 hl (k := 2) rfl (z_inc _) (by decide) rfl (fun ls hl => ?_)
                    refine lv_goto (tgt := 84) hx hb dX3_difference_189 (by decide) ?_
                    exact ih84 ((p9 + 1), (some q8), (upd g p9 (-1 : Int32))) ls H locs (show (vsN sg.2.1 w9).length - (p9 + 1) < dd84 by omega) ⟨lv_sub hl [0, 3, 4, 5, 6, 7, 8, 9, 10] rfl, hW, hS, (show (p9 + 1) ≤ (vsN sg.2.1 w9).length from by omega), (show stS (BT (bb (vsN sg.2.1 v9)) (vsN sg.2.1 v9).length (bb (vsN sg.2.1 w9)) (vsN sg.2.1 w9).length size) size (p9 + 1) = ((some q8), 0) from (md_l hst hB).2), (show ∀ i, i < (p9 + 1) → (upd g p9 (-1 : Int32)) i = difO (BT (bb (vsN sg.2.1 v9)) (vsN sg.2.1 v9).length (bb (vsN sg.2.1 w9)) (vsN sg.2.1 w9).length size) size i from upd_ok hg (md_l hst hB).1.symm)⟩
                · skip
                  rw [hfs] at hl hbt
                  have hB : (BT (bb (vsN sg.2.1 v9)) (vsN sg.2.1 v9).length (bb (vsN sg.2.1 w9)) (vsN sg.2.1 w9).length size) p9 (some q8) = some b9 := hbt
                  have hl : lv_has ls 11 [(9, .int (nI b9)), (10, .int (nI 0)), (8, .int (nI p9)), (7, .int (nI q8)), (0, .ref (b 0)), (1, .int (nI v9)), (2, .int (nI w9)), (3, .int (nI size)), (4, .ref (mA w 0 v9)), (5, .ref (mA w 0 w9)), (6, .ref q74)] := hl
                  have hb8 := btc_lt hB
                  have hb7 := z_blk hb8
                  have hb6 : (b9 + 1) * size = b9 * size + size := Nat.succ_mul b9 size
                  refine lv_iload hx hb dX3_difference_174 (lv_at hl 0 rfl) ?_
                  refine lv_iconst (v := (-1 : Int32)) hx hb dX3_difference_176 (by decide) ?_
                  refine lv_icmp_ne (tgt := 192) hx hb dX3_difference_177 (by decide) (fun hc177 => ?_) (fun hc177 => ?_)
                  · skip
                    have hc177 : ¬ (nI b9) = (-1 : Int32) := hc177
                    refine lv_iconst (v := nI 0) hx hb dX3_difference_192 (by decide) ?_
                    refine lv_istore (lv' := [(10, .int (nI 0)), (9, .int (nI b9)), (8, .int (nI p9)), (7, .int (nI q8)), (0, .ref (b 0)), (1, .int (nI v9)), (2, .int (nI w9)), (3, .int (nI size)), (4, .ref (mA w 0 v9)), (5, .ref (mA w 0 w9)), (6, .ref q74)]) hx hb dX3_difference_193 hl (by decide) rfl (fun ls hl => ?_)
                    refine z_loopM (σ := Nat × (Nat → Int32)) (fun q9 => size - q9.1) (fun q9 ls H locs => lv_has ls 11 [(10, .int (nI q9.1)), (9, .int (nI b9)), (8, .int (nI p9)), (0, .ref (b 0)), (1, .int (nI v9)), (2, .int (nI w9)), (3, .int (nI size)), (4, .ref (mA w 0 v9)), (5, .ref (mA w 0 w9)), (6, .ref q74)] ∧ Wd D S0 (((b 0), .inr (4, [.int (nI 0), .int (nI sg.1.length), .ref (b 1), .int (nI sg.2.1.length), .ref (b 2), .int (nI sg.2.2.1.length), .ref (b 3), .ref (b 4), .ref (b 5), .ref (mI w), .int (nI sg.2.2.2.2.length), .ref (b 6)])) :: ((b 1), fa cs 400 (mf w)) :: ((b 2), qa cs 2 12 (mg w 0)) :: ((b 3), qa cs 2 12 (mg w 1)) :: ((b 4), qa cs 2 12 (mg w 2)) :: ((b 5), qa cs 2 12 (mg w 3)) :: ((b 6), qa cs 2 20 (mg w 4)) :: (q74, fa cs ((vsN sg.2.1 w9).length) q9.2) :: Z) H ∧ va_S (SA S0) s.heap H locs ∧ (q9.1 ≤ size) ∧ (∀ i, i < p9 + q9.1 → q9.2 i = difO (BT (bb (vsN sg.2.1 v9)) (vsN sg.2.1 v9).length (bb (vsN sg.2.1 w9)) (vsN sg.2.1 w9).length size) size i)) (0, g) ⟨lv_sub hl [0, 1, 2, 4, 5, 6, 7, 8, 9, 10] rfl, hW, hS, (show 0 ≤ size from Nat.zero_le _), (show ∀ i, i < p9 + 0 → g i = difO (BT (bb (vsN sg.2.1 v9)) (vsN sg.2.1 v9).length (bb (vsN sg.2.1 w9)) (vsN sg.2.1 w9).length size) size i from hg)⟩ (fun dd195 ih195 y9 ls H locs hd9 hI9 => ?_)
                    obtain ⟨k, g2⟩ := y9
                    have hd195 : size - k = dd195 := hd9
                    have hI9 : lv_has ls 11 [(10, .int (nI k)), (9, .int (nI b9)), (8, .int (nI p9)), (0, .ref (b 0)), (1, .int (nI v9)), (2, .int (nI w9)), (3, .int (nI size)), (4, .ref (mA w 0 v9)), (5, .ref (mA w 0 w9)), (6, .ref q74)] ∧ Wd D S0 (((b 0), .inr (4, [.int (nI 0), .int (nI sg.1.length), .ref (b 1), .int (nI sg.2.1.length), .ref (b 2), .int (nI sg.2.2.1.length), .ref (b 3), .ref (b 4), .ref (b 5), .ref (mI w), .int (nI sg.2.2.2.2.length), .ref (b 6)])) :: ((b 1), fa cs 400 (mf w)) :: ((b 2), qa cs 2 12 (mg w 0)) :: ((b 3), qa cs 2 12 (mg w 1)) :: ((b 4), qa cs 2 12 (mg w 2)) :: ((b 5), qa cs 2 12 (mg w 3)) :: ((b 6), qa cs 2 20 (mg w 4)) :: (q74, fa cs ((vsN sg.2.1 w9).length) g2) :: Z) H ∧ va_S (SA S0) s.heap H locs ∧ (k ≤ size) ∧ (∀ i, i < p9 + k → g2 i = difO (BT (bb (vsN sg.2.1 v9)) (vsN sg.2.1 v9).length (bb (vsN sg.2.1 w9)) (vsN sg.2.1 w9).length size) size i) := hI9
                    obtain ⟨hl, hW, hS, hk, hg2⟩ := hI9
                    refine lv_iload hx hb dX3_difference_195 (lv_at hl 0 rfl) ?_
                    refine lv_iload_n hx hb dX3_difference_197 rfl (lv_at hl 6 rfl) ?_
                    refine z_icmp_ge (tgt := 222) hx hb (by omega) (by omega) dX3_difference_198 (by decide) (fun hc198 => ?_) (fun hc198 => ?_)
                    · skip
                      have hc198 : size ≤ k := hc198
                      have e9 : k = size := by omega
                      rw [e9] at hg2
                      refine lv_iload hx hb dX3_difference_222 (lv_at hl 2 rfl) ?_
                      refine lv_iload_n hx hb dX3_difference_224 rfl (lv_at hl 6 rfl) ?_
                      refine lv_iadd hx hb dX3_difference_225 ?_
                      refine zti (nI_add _ _) (y := nI (p9 + size)) ?_
                      refine lv_istore (lv' := [(8, .int (nI (p9 + size))), (10, .int (nI k)), (9, .int (nI b9)), (0, .ref (b 0)), (1, .int (nI v9)), (2, .int (nI w9)), (3, .int (nI size)), (4, .ref (mA w 0 v9)), (5, .ref (mA w 0 w9)), (6, .ref q74)]) hx hb dX3_difference_226 hl (by decide) rfl (fun ls hl => ?_)
                      refine lv_iload hx hb dX3_difference_228 (lv_at hl 2 rfl) ?_
                      refine lv_istore (lv' := [(7, .int (nI b9)), (8, .int (nI (p9 + size))), (10, .int (nI k)), (9, .int (nI b9)), (0, .ref (b 0)), (1, .int (nI v9)), (2, .int (nI w9)), (3, .int (nI size)), (4, .ref (mA w 0 v9)), (5, .ref (mA w 0 w9)), (6, .ref q74)]) hx hb dX3_difference_230 hl (by decide) rfl (fun ls hl => ?_)
                      refine lv_goto (tgt := 84) hx hb dX3_difference_232 (by decide) ?_
                      exact ih84 ((p9 + size), (some b9), g2) ls H locs (show (vsN sg.2.1 w9).length - (p9 + size) < dd84 by omega) ⟨lv_sub hl [1, 0, 4, 5, 6, 7, 8, 9, 10] rfl, hW, hS, (show (p9 + size) ≤ (vsN sg.2.1 w9).length from by omega), (show stS (BT (bb (vsN sg.2.1 v9)) (vsN sg.2.1 v9).length (bb (vsN sg.2.1 w9)) (vsN sg.2.1 w9).length size) size (p9 + size) = ((some b9), 0) from blk_en (by omega) hst hB), (show ∀ i, i < (p9 + size) → g2 i = difO (BT (bb (vsN sg.2.1 v9)) (vsN sg.2.1 v9).length (bb (vsN sg.2.1 w9)) (vsN sg.2.1 w9).length size) size i from hg2)⟩
                    · skip
                      have hc198 : k < size := hc198
                      refine lv_aload hx hb dX3_difference_201 (lv_at hl 9 rfl) ?_
                      refine lv_iload hx hb dX3_difference_203 (lv_at hl 2 rfl) ?_
                      refine lv_iload hx hb dX3_difference_205 (lv_at hl 0 rfl) ?_
                      refine lv_iadd hx hb dX3_difference_207 ?_
                      refine zti (nI_add _ _) (y := nI (p9 + k)) ?_
                      refine lv_iload hx hb dX3_difference_208 (lv_at hl 1 rfl) ?_
                      refine lv_iload_n hx hb dX3_difference_210 rfl (lv_at hl 6 rfl) ?_
                      refine lv_imul hx hb dX3_difference_211 ?_
                      refine zti (pk_mul _ _) (y := nI (b9 * size)) ?_
                      refine lv_iload hx hb dX3_difference_212 (lv_at hl 0 rfl) ?_
                      refine lv_iadd hx hb dX3_difference_214 ?_
                      refine zti (nI_add _ _) (y := nI (b9 * size + k)) ?_
                      refine z_iast (k := (p9 + k)) (x := nI (b9 * size + k)) (n := ((vsN sg.2.1 w9).length)) (f := g2) hx hb hK hW hS 7 rfl (by omega) (by omega) dX3_difference_215 (fun H locs hW hS => ?_)
                      have hW : Wd D S0 (((b 0), .inr (4, [.int (nI 0), .int (nI sg.1.length), .ref (b 1), .int (nI sg.2.1.length), .ref (b 2), .int (nI sg.2.2.1.length), .ref (b 3), .ref (b 4), .ref (b 5), .ref (mI w), .int (nI sg.2.2.2.2.length), .ref (b 6)])) :: ((b 1), fa cs 400 (mf w)) :: ((b 2), qa cs 2 12 (mg w 0)) :: ((b 3), qa cs 2 12 (mg w 1)) :: ((b 4), qa cs 2 12 (mg w 2)) :: ((b 5), qa cs 2 12 (mg w 3)) :: ((b 6), qa cs 2 20 (mg w 4)) :: (q74, fa cs ((vsN sg.2.1 w9).length) (upd g2 (p9 + k) (nI (b9 * size + k)))) :: Z) H := hW
                      refine lv_iinc (v := nI (k + 1)) (lv' := [(10, .int (nI (k + 1))), (9, .int (nI b9)), (8, .int (nI p9)), (0, .ref (b 0)), (1, .int (nI v9)), (2, .int (nI w9)), (3, .int (nI size)), (4, .ref (mA w 0 v9)), (5, .ref (mA w 0 w9)), (6, .ref q74)]) hx hb dX3_difference_216 hl (k := 0) rfl (z_inc _) (by decide) rfl (fun ls hl => ?_)
                      refine lv_goto (tgt := 195) hx hb dX3_difference_219 (by decide) ?_
                      exact ih195 ((k + 1), (upd g2 (p9 + k) (nI (b9 * size + k)))) ls H locs (show size - (k + 1) < dd195 by omega) ⟨lv_sub hl [0, 1, 2, 3, 4, 5, 6, 7, 8, 9] rfl, hW, hS, (show (k + 1) ≤ size from by omega), (show ∀ i, i < p9 + (k + 1) → (upd g2 (p9 + k) (nI (b9 * size + k))) i = difO (BT (bb (vsN sg.2.1 v9)) (vsN sg.2.1 v9).length (bb (vsN sg.2.1 w9)) (vsN sg.2.1 w9).length size) size i from upd_ok hg2 (blk_st hdz hst hB k hc198).1.symm)⟩
                  · skip
                    have hc177 : (nI b9) = (-1 : Int32) := hc177
                    exact absurd hc177 (z_nm1 (by omega))
              · skip
                have hc139 : (stB (bb (vsN sg.2.1 v9)) (bb (vsN sg.2.1 w9)) ((q8 + 1) * size) p9 size) = true := hc139
                have hbt : btc (bb (vsN sg.2.1 v9)) (vsN sg.2.1 v9).length (bb (vsN sg.2.1 w9)) (vsN sg.2.1 w9).length p9 size (some q8) = _ := btc_nx (by omega) hc120 hc139
                refine lv_iconst (v := nI 1) hx hb dX3_difference_142 (by decide) ?_
                refine lv_goto (tgt := 147) hx hb dX3_difference_143 (by decide) ?_
                refine lv_istore (lv' := [(10, .int (nI 1)), (9, .int (-1 : Int32)), (8, .int (nI p9)), (7, .int (nI q8)), (0, .ref (b 0)), (1, .int (nI v9)), (2, .int (nI w9)), (3, .int (nI size)), (4, .ref (mA w 0 v9)), (5, .ref (mA w 0 w9)), (6, .ref q74)]) hx hb dX3_difference_147 hl (by decide) rfl (fun ls hl => ?_)
                refine lv_iload hx hb dX3_difference_149 (lv_at hl 0 rfl) ?_
                refine lv_if_eq (tgt := 161) hx hb dX3_difference_151 (by decide) (fun h9 => absurd h9 (by decide)) (fun _ => ?_)
                refine lv_iload hx hb dX3_difference_154 (lv_at hl 3 rfl) ?_
                refine lv_iconst (v := nI 1) hx hb dX3_difference_156 (by decide) ?_
                refine lv_iadd hx hb dX3_difference_157 ?_
                refine zti (nI_add _ _) (y := nI (q8 + 1)) ?_
                refine lv_goto (tgt := 172) hx hb dX3_difference_158 (by decide) ?_
                refine lv_istore (lv' := [(9, .int (nI (q8 + 1))), (10, .int (nI 1)), (8, .int (nI p9)), (7, .int (nI q8)), (0, .ref (b 0)), (1, .int (nI v9)), (2, .int (nI w9)), (3, .int (nI size)), (4, .ref (mA w 0 v9)), (5, .ref (mA w 0 w9)), (6, .ref q74)]) hx hb dX3_difference_172 hl (by decide) rfl (fun ls hl => ?_)
                have hB9 := hbt
                obtain ⟨b9, hb9⟩ : ∃ z, z = q8 + 1 := ⟨_, rfl⟩
                rw [← hb9] at hl hbt
                have hB : (BT (bb (vsN sg.2.1 v9)) (vsN sg.2.1 v9).length (bb (vsN sg.2.1 w9)) (vsN sg.2.1 w9).length size) p9 (some q8) = some b9 := hbt
                have hl : lv_has ls 11 [(9, .int (nI b9)), (10, .int (nI 1)), (8, .int (nI p9)), (7, .int (nI q8)), (0, .ref (b 0)), (1, .int (nI v9)), (2, .int (nI w9)), (3, .int (nI size)), (4, .ref (mA w 0 v9)), (5, .ref (mA w 0 w9)), (6, .ref q74)] := hl
                have hb8 := btc_lt hB
                have hb7 := z_blk hb8
                have hb6 : (b9 + 1) * size = b9 * size + size := Nat.succ_mul b9 size
                refine lv_iload hx hb dX3_difference_174 (lv_at hl 0 rfl) ?_
                refine lv_iconst (v := (-1 : Int32)) hx hb dX3_difference_176 (by decide) ?_
                refine lv_icmp_ne (tgt := 192) hx hb dX3_difference_177 (by decide) (fun hc177 => ?_) (fun hc177 => ?_)
                · skip
                  have hc177 : ¬ (nI b9) = (-1 : Int32) := hc177
                  refine lv_iconst (v := nI 0) hx hb dX3_difference_192 (by decide) ?_
                  refine lv_istore (lv' := [(10, .int (nI 0)), (9, .int (nI b9)), (8, .int (nI p9)), (7, .int (nI q8)), (0, .ref (b 0)), (1, .int (nI v9)), (2, .int (nI w9)), (3, .int (nI size)), (4, .ref (mA w 0 v9)), (5, .ref (mA w 0 w9)), (6, .ref q74)]) hx hb dX3_difference_193 hl (by decide) rfl (fun ls hl => ?_)
                  refine z_loopM (σ := Nat × (Nat → Int32)) (fun q9 => size - q9.1) (fun q9 ls H locs => lv_has ls 11 [(10, .int (nI q9.1)), (9, .int (nI b9)), (8, .int (nI p9)), (0, .ref (b 0)), (1, .int (nI v9)), (2, .int (nI w9)), (3, .int (nI size)), (4, .ref (mA w 0 v9)), (5, .ref (mA w 0 w9)), (6, .ref q74)] ∧ Wd D S0 (((b 0), .inr (4, [.int (nI 0), .int (nI sg.1.length), .ref (b 1), .int (nI sg.2.1.length), .ref (b 2), .int (nI sg.2.2.1.length), .ref (b 3), .ref (b 4), .ref (b 5), .ref (mI w), .int (nI sg.2.2.2.2.length), .ref (b 6)])) :: ((b 1), fa cs 400 (mf w)) :: ((b 2), qa cs 2 12 (mg w 0)) :: ((b 3), qa cs 2 12 (mg w 1)) :: ((b 4), qa cs 2 12 (mg w 2)) :: ((b 5), qa cs 2 12 (mg w 3)) :: ((b 6), qa cs 2 20 (mg w 4)) :: (q74, fa cs ((vsN sg.2.1 w9).length) q9.2) :: Z) H ∧ va_S (SA S0) s.heap H locs ∧ (q9.1 ≤ size) ∧ (∀ i, i < p9 + q9.1 → q9.2 i = difO (BT (bb (vsN sg.2.1 v9)) (vsN sg.2.1 v9).length (bb (vsN sg.2.1 w9)) (vsN sg.2.1 w9).length size) size i)) (0, g) ⟨lv_sub hl [0, 1, 2, 4, 5, 6, 7, 8, 9, 10] rfl, hW, hS, (show 0 ≤ size from Nat.zero_le _), (show ∀ i, i < p9 + 0 → g i = difO (BT (bb (vsN sg.2.1 v9)) (vsN sg.2.1 v9).length (bb (vsN sg.2.1 w9)) (vsN sg.2.1 w9).length size) size i from hg)⟩ (fun dd195 ih195 y9 ls H locs hd9 hI9 => ?_)
                  obtain ⟨k, g2⟩ := y9
                  have hd195 : size - k = dd195 := hd9
                  have hI9 : lv_has ls 11 [(10, .int (nI k)), (9, .int (nI b9)), (8, .int (nI p9)), (0, .ref (b 0)), (1, .int (nI v9)), (2, .int (nI w9)), (3, .int (nI size)), (4, .ref (mA w 0 v9)), (5, .ref (mA w 0 w9)), (6, .ref q74)] ∧ Wd D S0 (((b 0), .inr (4, [.int (nI 0), .int (nI sg.1.length), .ref (b 1), .int (nI sg.2.1.length), .ref (b 2), .int (nI sg.2.2.1.length), .ref (b 3), .ref (b 4), .ref (b 5), .ref (mI w), .int (nI sg.2.2.2.2.length), .ref (b 6)])) :: ((b 1), fa cs 400 (mf w)) :: ((b 2), qa cs 2 12 (mg w 0)) :: ((b 3), qa cs 2 12 (mg w 1)) :: ((b 4), qa cs 2 12 (mg w 2)) :: ((b 5), qa cs 2 12 (mg w 3)) :: ((b 6), qa cs 2 20 (mg w 4)) :: (q74, fa cs ((vsN sg.2.1 w9).length) g2) :: Z) H ∧ va_S (SA S0) s.heap H locs ∧ (k ≤ size) ∧ (∀ i, i < p9 + k → g2 i = difO (BT (bb (vsN sg.2.1 v9)) (vsN sg.2.1 v9).length (bb (vsN sg.2.1 w9)) (vsN sg.2.1 w9).length size) size i) := hI9
                  obtain ⟨hl, hW, hS, hk, hg2⟩ := hI9
                  refine lv_iload hx hb dX3_difference_195 (lv_at hl 0 rfl) ?_
                  refine lv_iload_n hx hb dX3_difference_197 rfl (lv_at hl 6 rfl) ?_
                  refine z_icmp_ge (tgt := 222) hx hb (by omega) (by omega) dX3_difference_198 (by decide) (fun hc198 => ?_) (fun hc198 => ?_)
                  · skip
                    have hc198 : size ≤ k := hc198
                    have e9 : k = size := by omega
                    rw [e9] at hg2
                    refine lv_iload hx hb dX3_difference_222 (lv_at hl 2 rfl) ?_
                    refine lv_iload_n hx hb dX3_difference_224 rfl (lv_at hl 6 rfl) ?_
                    refine lv_iadd hx hb dX3_difference_225 ?_
                    refine zti (nI_add _ _) (y := nI (p9 + size)) ?_
                    refine lv_istore (lv' := [(8, .int (nI (p9 + size))), (10, .int (nI k)), (9, .int (nI b9)), (0, .ref (b 0)), (1, .int (nI v9)), (2, .int (nI w9)), (3, .int (nI size)), (4, .ref (mA w 0 v9)), (5, .ref (mA w 0 w9)), (6, .ref q74)]) hx hb dX3_difference_226 hl (by decide) rfl (fun ls hl => ?_)
                    refine lv_iload hx hb dX3_difference_228 (lv_at hl 2 rfl) ?_
                    refine lv_istore (lv' := [(7, .int (nI b9)), (8, .int (nI (p9 + size))), (10, .int (nI k)), (9, .int (nI b9)), (0, .ref (b 0)), (1, .int (nI v9)), (2, .int (nI w9)), (3, .int (nI size)), (4, .ref (mA w 0 v9)), (5, .ref (mA w 0 w9)), (6, .ref q74)]) hx hb dX3_difference_230 hl (by decide) rfl (fun ls hl => ?_)
                    refine lv_goto (tgt := 84) hx hb dX3_difference_232 (by decide) ?_
                    exact ih84 ((p9 + size), (some b9), g2) ls H locs (show (vsN sg.2.1 w9).length - (p9 + size) < dd84 by omega) ⟨lv_sub hl [1, 0, 4, 5, 6, 7, 8, 9, 10] rfl, hW, hS, (show (p9 + size) ≤ (vsN sg.2.1 w9).length from by omega), (show stS (BT (bb (vsN sg.2.1 v9)) (vsN sg.2.1 v9).length (bb (vsN sg.2.1 w9)) (vsN sg.2.1 w9).length size) size (p9 + size) = ((some b9), 0) from blk_en (by omega) hst hB), (show ∀ i, i < (p9 + size) → g2 i = difO (BT (bb (vsN sg.2.1 v9)) (vsN sg.2.1 v9).length (bb (vsN sg.2.1 w9)) (vsN sg.2.1 w9).length size) size i from hg2)⟩
                  · skip
                    have hc198 : k < size := hc198
                    refine lv_aload hx hb dX3_difference_201 (lv_at hl 9 rfl) ?_
                    refine lv_iload hx hb dX3_difference_203 (lv_at hl 2 rfl) ?_
                    refine lv_iload hx hb dX3_difference_205 (lv_at hl 0 rfl) ?_
                    refine lv_iadd hx hb dX3_difference_207 ?_
                    refine zti (nI_add _ _) (y := nI (p9 + k)) ?_
                    refine lv_iload hx hb dX3_difference_208 (lv_at hl 1 rfl) ?_
                    refine lv_iload_n hx hb dX3_difference_210 rfl (lv_at hl 6 rfl) ?_
                    refine lv_imul hx hb dX3_difference_211 ?_
                    refine zti (pk_mul _ _) (y := nI (b9 * size)) ?_
                    refine lv_iload hx hb dX3_difference_212 (lv_at hl 0 rfl) ?_
                    refine lv_iadd hx hb dX3_difference_214 ?_
                    refine zti (nI_add _ _) (y := nI (b9 * size + k)) ?_
                    refine z_iast (k := (p9 + k)) (x := nI (b9 * size + k)) (n := ((vsN sg.2.1 w9).length)) (f := g2) hx hb hK hW hS 7 rfl (by omega) (by omega) dX3_difference_215 (fun H locs hW hS => ?_)
                    have hW : Wd D S0 (((b 0), .inr (4, [.int (nI 0), .int (nI sg.1.length), .ref (b 1), .int (nI sg.2.1.length), .ref (b 2), .int (nI sg.2.2.1.length), .ref (b 3), .ref (b 4), .ref (b 5), .ref (mI w), .int (nI sg.2.2.2.2.length), .ref (b 6)])) :: ((b 1), fa cs 400 (mf w)) :: ((b 2), qa cs 2 12 (mg w 0)) :: ((b 3), qa cs 2 12 (mg w 1)) :: ((b 4), qa cs 2 12 (mg w 2)) :: ((b 5), qa cs 2 12 (mg w 3)) :: ((b 6), qa cs 2 20 (mg w 4)) :: (q74, fa cs ((vsN sg.2.1 w9).length) (upd g2 (p9 + k) (nI (b9 * size + k)))) :: Z) H := hW
                    refine lv_iinc (v := nI (k + 1)) (lv' := [(10, .int (nI (k + 1))), (9, .int (nI b9)), (8, .int (nI p9)), (0, .ref (b 0)), (1, .int (nI v9)), (2, .int (nI w9)), (3, .int (nI size)), (4, .ref (mA w 0 v9)), (5, .ref (mA w 0 w9)), (6, .ref q74)]) hx hb dX3_difference_216 hl (k := 0) rfl (z_inc _) (by decide) rfl (fun ls hl => ?_)
                    refine lv_goto (tgt := 195) hx hb dX3_difference_219 (by decide) ?_
                    exact ih195 ((k + 1), (upd g2 (p9 + k) (nI (b9 * size + k)))) ls H locs (show size - (k + 1) < dd195 by omega) ⟨lv_sub hl [0, 1, 2, 3, 4, 5, 6, 7, 8, 9] rfl, hW, hS, (show (k + 1) ≤ size from by omega), (show ∀ i, i < p9 + (k + 1) → (upd g2 (p9 + k) (nI (b9 * size + k))) i = difO (BT (bb (vsN sg.2.1 v9)) (vsN sg.2.1 v9).length (bb (vsN sg.2.1 w9)) (vsN sg.2.1 w9).length size) size i from upd_ok hg2 (blk_st hdz hst hB k hc198).1.symm)⟩
                · skip
                  have hc177 : (nI b9) = (-1 : Int32) := hc177
                  exact absurd hc177 (z_nm1 (by omega))
  · skip
    have hc46 : sg.2.2.1.length = 12 := hc46
    omega

set_option maxHeartbeats 4000000 in
set_option maxRecDepth 100000 in
theorem c_X3_compose_a (l : Launch) (D : va_G) (cs : Nat → ClassId) (S0 : Nat) (Z : va_W) (b : Nat → Nat) (w : MU) (sg : St) (hF : MF cs w sg Z) (th : Int32) (v : Int32) (hv : vI v sg.2.2.1.length = false) (w9i : Int32)  : Met l yX3_compose wsX3_compose ({ frames := 2, cells := 0, slots := 0, locals := 43 }) (zM [.ref (b 0), .int v, .int w9i] (fun H => Wd D S0 (MW cs b w (th) sg Z) H) D cs) (va_Qi (fun r (v : MU × va_W) => ((1 : Nat) = 0 → r = nI 0) ∧ MF cs v.1 sg (v.2 ++ Z)) (fun v t => Wd D S0 (MW cs b v.1 (nI 1) sg (v.2 ++ Z)) t.heap) (SA S0)) 0 0 (SA S0) := by
  refine Met.ofW (cc := cX3_compose) (maxL := 5) (ret := (some .int)) (by decide) rfl ?_
  intro p e s m args below meth c s₁ B hml hv
  obtain ⟨rfl, hW, hK, hA9⟩ := hv
  have hx := B.exec
  have hb := B.bytes
  have hr := B.returns
  have hts := atoms_spec (ws := wsX3_compose) B.pre
  have hown : s.vm.findClass RX3 = some m.cls := findClass_of_methodNamed B.named
  have hlocks := B.notSynchronized
  have hRc : (headSpec wsX3_compose ({ frames := 2, cells := 0, slots := 0, locals := 43 })).room.cells = 0 := rfl
  have hRs : (headSpec wsX3_compose ({ frames := 2, cells := 0, slots := 0, locals := 43 })).room.slots = 0 := rfl
  have fl33 := hts (.fieldLink RX3 33 "DeltaUpdaterModel" "thrown" "I") (by decide +kernel)
  have in4 : ∀ w ∈ u_ws RX3 TX3 12, w ∈ wsX3_compose := by decide +kernel
  have hW : Wd D S0 (MW cs b w (th) sg Z) s.heap := hW
  have hS0 : S0 ≤ s.heap.size := hW.2.2
  have hS : va_S (SA S0) s.heap s.heap [] := va_S.rf
  have hl := lv_entry ([.ref (b 0), .int v, .int w9i]) (n := 5) (Nat.le_of_ble_eq_true rfl)
  rw [lg_entry_eq]
  generalize (lg_sl ([.ref (b 0), .int v, .int w9i]) ++ List.replicate (5 - (lg_sl ([.ref (b 0), .int v, .int w9i])).length) Slot.unset).toArray = ls at hl ⊢
  have hl : lv_has ls 5 [(0, .ref (b 0)), (1, .int v), (2, .int w9i)] := hl
  have hok := hF.2.2.2.2.2
  have hbl := hok.1.1
  have hnv := hok.2.1.1
  have hnp := hok.2.2.1.1
  have hnh := hok.2.2.2.2.1
  refine lv_aload_n hx hb dX3_compose_0 rfl (lv_at hl 0 rfl) ?_
  refine lv_iconst (v := nI 0) hx hb dX3_compose_1 (by decide) ?_
  refine z_put (ty := .int) (ci := 4) (v := .int (nI 0)) (C := RX3) (T := TX3) (N := 12) hx hb hts in4 tyX3 tyX3_ok nmX3 hown hK hW hS 0 rfl rfl 0 (by decide) fl33 (fun _ h9 => h9) rfl (by decide +kernel) rfl rfl (Nat.le_of_ble_eq_true rfl) dX3_compose_2 (fun H locs hW hS => ?_)
  have hW : Wd D S0 (((b 0), .inr (4, [.int (nI 0), .int (nI sg.1.length), .ref (b 1), .int (nI sg.2.1.length), .ref (b 2), .int (nI sg.2.2.1.length), .ref (b 3), .ref (b 4), .ref (b 5), .ref (mI w), .int (nI sg.2.2.2.2.length), .ref (b 6)])) :: ((b 1), fa cs 400 (mf w)) :: ((b 2), qa cs 2 12 (mg w 0)) :: ((b 3), qa cs 2 12 (mg w 1)) :: ((b 4), qa cs 2 12 (mg w 2)) :: ((b 5), qa cs 2 12 (mg w 3)) :: ((b 6), qa cs 2 20 (mg w 4)) :: Z) H := hW
  refine lv_aload_n hx hb dX3_compose_5 rfl (lv_at hl 0 rfl) ?_
  refine lv_iload_n hx hb dX3_compose_6 rfl (lv_at hl 1 rfl) ?_
  refine z_csV (As := [.int v]) (rest := []) ⟨hx, hb, hml, hown, hts⟩ (c_X3_isPatch l D cs (b 0) [.int (nI 0), .int (nI sg.1.length), .ref (b 1), .int (nI sg.2.1.length), .ref (b 2), .int (nI sg.2.2.1.length), .ref (b 3), .ref (b 4), .ref (b 5), .ref (mI w), .int (nI sg.2.2.2.2.length), .ref (b 6)] v sg.2.2.1.length rfl) (cwV 1 hts gX3_compose_X3_isPatch rfl rfl rfl (by decide +kernel) ⟨Nat.le_of_ble_eq_true rfl, Nat.le_of_ble_eq_true rfl⟩) (hW.1 0 _ rfl) rfl (hW.1 0 _ rfl) hK rfl hl.1 rfl (Nat.le_of_ble_eq_true rfl) dX3_compose_7 ⟨(by rw [hRc]; omega), (by rw [hRs]; omega)⟩ (fun r hq9 => ?_)
  have hq9 : r = bI (vI v sg.2.2.1.length) := hq9
  subst hq9
  refine z_ifb_eq (tgt := 21) hx hb dX3_compose_10 (by decide) (fun _ => ?_) (fun h9 => absurd (h9.symm.trans hv) (by decide))
  refine lv_aload_n hx hb dX3_compose_21 rfl (lv_at hl 0 rfl) ?_
  refine lv_iconst (v := nI 1) hx hb dX3_compose_22 (by decide) ?_
  refine z_cmI (va_runV (As := [.int (nI 1)]) (rest := []) ⟨hx, hb, hml, hown, hts⟩ (c_X3_fail l D cs S0 Z b w (nI 0) (nI 1) sg) (cwV 1 hts gX3_compose_X3_fail rfl rfl rfl (by decide +kernel) ⟨Nat.le_of_ble_eq_true rfl, Nat.le_of_ble_eq_true rfl⟩) ⟨zP_blind, z_recv hK (hW.1 0 _ rfl) rfl, (zP_pre hW hK)⟩ rfl rfl hl.1 rfl (lv_room (Nat.le_of_ble_eq_true rfl)) dX3_compose_23 ⟨(by rw [hRc]; omega), (by rw [hRs]; omega)⟩) hS (fun r u8 H locs hu hW hS => ?_)
  rw [hu]
  have hW : Wd D S0 (((b 0), .inr (4, [.int (nI 1), .int (nI sg.1.length), .ref (b 1), .int (nI sg.2.1.length), .ref (b 2), .int (nI sg.2.2.1.length), .ref (b 3), .ref (b 4), .ref (b 5), .ref (mI w), .int (nI sg.2.2.2.2.length), .ref (b 6)])) :: ((b 1), fa cs 400 (mf w)) :: ((b 2), qa cs 2 12 (mg w 0)) :: ((b 3), qa cs 2 12 (mg w 1)) :: ((b 4), qa cs 2 12 (mg w 2)) :: ((b 5), qa cs 2 12 (mg w 3)) :: ((b 6), qa cs 2 20 (mg w 4)) :: Z) H := hW
  refine W.widen (k := 0) (n := 0) (by omega) (by omega) ?_
  exact W.iret (v := nI 0) hx hb hr (fun t ht hW9 => ⟨⟨_, (w, []), rfl, ⟨fun h9 => absurd h9 (by decide), hF⟩, (by show Wd D S0 _ _; rw [ht]; exact hW)⟩, hS.F ht⟩) (fun q9 h9 => hS.2.2 q9 h9) dX3_compose_26

set_option maxHeartbeats 4000000 in
set_option maxRecDepth 100000 in
theorem c_X3_compose_b (l : Launch) (D : va_G) (cs : Nat → ClassId) (S0 : Nat) (Z : va_W) (b : Nat → Nat) (w : MU) (sg : St) (hF : MF cs w sg Z) (th : Int32) (j9 : Nat) (hj : j9 < sg.2.2.1.length) (v : Int32) (hv : vI v sg.2.2.1.length = false)  : Met l yX3_compose wsX3_compose ({ frames := 2, cells := 0, slots := 0, locals := 43 }) (zM [.ref (b 0), .int (nI j9), .int v] (fun H => Wd D S0 (MW cs b w (th) sg Z) H) D cs) (va_Qi (fun r (v : MU × va_W) => ((1 : Nat) = 0 → r = nI 0) ∧ MF cs v.1 sg (v.2 ++ Z)) (fun v t => Wd D S0 (MW cs b v.1 (nI 1) sg (v.2 ++ Z)) t.heap) (SA S0)) 0 0 (SA S0) := by
  refine Met.ofW (cc := cX3_compose) (maxL := 5) (ret := (some .int)) (by decide) rfl ?_
  intro p e s m args below meth c s₁ B hml hv
  obtain ⟨rfl, hW, hK, hA9⟩ := hv
  have hx := B.exec
  have hb := B.bytes
  have hr := B.returns
  have hts := atoms_spec (ws := wsX3_compose) B.pre
  have hown : s.vm.findClass RX3 = some m.cls := findClass_of_methodNamed B.named
  have hlocks := B.notSynchronized
  have hRc : (headSpec wsX3_compose ({ frames := 2, cells := 0, slots := 0, locals := 43 })).room.cells = 0 := rfl
  have hRs : (headSpec wsX3_compose ({ frames := 2, cells := 0, slots := 0, locals := 43 })).room.slots = 0 := rfl
  have fl33 := hts (.fieldLink RX3 33 "DeltaUpdaterModel" "thrown" "I") (by decide +kernel)
  have in4 : ∀ w ∈ u_ws RX3 TX3 12, w ∈ wsX3_compose := by decide +kernel
  have hW : Wd D S0 (MW cs b w (th) sg Z) s.heap := hW
  have hS0 : S0 ≤ s.heap.size := hW.2.2
  have hS : va_S (SA S0) s.heap s.heap [] := va_S.rf
  have hl := lv_entry ([.ref (b 0), .int (nI j9), .int v]) (n := 5) (Nat.le_of_ble_eq_true rfl)
  rw [lg_entry_eq]
  generalize (lg_sl ([.ref (b 0), .int (nI j9), .int v]) ++ List.replicate (5 - (lg_sl ([.ref (b 0), .int (nI j9), .int v])).length) Slot.unset).toArray = ls at hl ⊢
  have hl : lv_has ls 5 [(0, .ref (b 0)), (1, .int (nI j9)), (2, .int v)] := hl
  have hok := hF.2.2.2.2.2
  have hbl := hok.1.1
  have hnv := hok.2.1.1
  have hnp := hok.2.2.1.1
  have hnh := hok.2.2.2.2.1
  have hji := vI_in hj (show sg.2.2.1.length < 2 ^ 30 by omega)
  refine lv_aload_n hx hb dX3_compose_0 rfl (lv_at hl 0 rfl) ?_
  refine lv_iconst (v := nI 0) hx hb dX3_compose_1 (by decide) ?_
  refine z_put (ty := .int) (ci := 4) (v := .int (nI 0)) (C := RX3) (T := TX3) (N := 12) hx hb hts in4 tyX3 tyX3_ok nmX3 hown hK hW hS 0 rfl rfl 0 (by decide) fl33 (fun _ h9 => h9) rfl (by decide +kernel) rfl rfl (Nat.le_of_ble_eq_true rfl) dX3_compose_2 (fun H locs hW hS => ?_)
  have hW : Wd D S0 (((b 0), .inr (4, [.int (nI 0), .int (nI sg.1.length), .ref (b 1), .int (nI sg.2.1.length), .ref (b 2), .int (nI sg.2.2.1.length), .ref (b 3), .ref (b 4), .ref (b 5), .ref (mI w), .int (nI sg.2.2.2.2.length), .ref (b 6)])) :: ((b 1), fa cs 400 (mf w)) :: ((b 2), qa cs 2 12 (mg w 0)) :: ((b 3), qa cs 2 12 (mg w 1)) :: ((b 4), qa cs 2 12 (mg w 2)) :: ((b 5), qa cs 2 12 (mg w 3)) :: ((b 6), qa cs 2 20 (mg w 4)) :: Z) H := hW
  refine lv_aload_n hx hb dX3_compose_5 rfl (lv_at hl 0 rfl) ?_
  refine lv_iload_n hx hb dX3_compose_6 rfl (lv_at hl 1 rfl) ?_
  refine z_csV (As := [.int (nI j9)]) (rest := []) ⟨hx, hb, hml, hown, hts⟩ (c_X3_isPatch l D cs (b 0) [.int (nI 0), .int (nI sg.1.length), .ref (b 1), .int (nI sg.2.1.length), .ref (b 2), .int (nI sg.2.2.1.length), .ref (b 3), .ref (b 4), .ref (b 5), .ref (mI w), .int (nI sg.2.2.2.2.length), .ref (b 6)] (nI j9) sg.2.2.1.length rfl) (cwV 1 hts gX3_compose_X3_isPatch rfl rfl rfl (by decide +kernel) ⟨Nat.le_of_ble_eq_true rfl, Nat.le_of_ble_eq_true rfl⟩) (hW.1 0 _ rfl) rfl (hW.1 0 _ rfl) hK rfl hl.1 rfl (Nat.le_of_ble_eq_true rfl) dX3_compose_7 ⟨(by rw [hRc]; omega), (by rw [hRs]; omega)⟩ (fun r hq9 => ?_)
  have hq9 : r = bI (vI (nI j9) sg.2.2.1.length) := hq9
  subst hq9
  refine z_ifb_eq (tgt := 21) hx hb dX3_compose_10 (by decide) (fun h9 => absurd (h9.symm.trans hji) (by decide)) (fun _ => ?_)
  refine lv_aload_n hx hb dX3_compose_13 rfl (lv_at hl 0 rfl) ?_
  refine lv_iload_n hx hb dX3_compose_14 rfl (lv_at hl 2 rfl) ?_
  refine z_csV (As := [.int v]) (rest := []) ⟨hx, hb, hml, hown, hts⟩ (c_X3_isPatch l D cs (b 0) [.int (nI 0), .int (nI sg.1.length), .ref (b 1), .int (nI sg.2.1.length), .ref (b 2), .int (nI sg.2.2.1.length), .ref (b 3), .ref (b 4), .ref (b 5), .ref (mI w), .int (nI sg.2.2.2.2.length), .ref (b 6)] v sg.2.2.1.length rfl) (cwV 1 hts gX3_compose_X3_isPatch rfl rfl rfl (by decide +kernel) ⟨Nat.le_of_ble_eq_true rfl, Nat.le_of_ble_eq_true rfl⟩) (hW.1 0 _ rfl) rfl (hW.1 0 _ rfl) hK rfl hl.1 rfl (Nat.le_of_ble_eq_true rfl) dX3_compose_15 ⟨(by rw [hRc]; omega), (by rw [hRs]; omega)⟩ (fun r hq9 => ?_)
  have hq9 : r = bI (vI v sg.2.2.1.length) := hq9
  subst hq9
  refine z_ifb_ne (tgt := 27) hx hb dX3_compose_18 (by decide) (fun h9 => absurd (h9.symm.trans hv) (by decide)) (fun _ => ?_)
  refine lv_aload_n hx hb dX3_compose_21 rfl (lv_at hl 0 rfl) ?_
  refine lv_iconst (v := nI 1) hx hb dX3_compose_22 (by decide) ?_
  refine z_cmI (va_runV (As := [.int (nI 1)]) (rest := []) ⟨hx, hb, hml, hown, hts⟩ (c_X3_fail l D cs S0 Z b w (nI 0) (nI 1) sg) (cwV 1 hts gX3_compose_X3_fail rfl rfl rfl (by decide +kernel) ⟨Nat.le_of_ble_eq_true rfl, Nat.le_of_ble_eq_true rfl⟩) ⟨zP_blind, z_recv hK (hW.1 0 _ rfl) rfl, (zP_pre hW hK)⟩ rfl rfl hl.1 rfl (lv_room (Nat.le_of_ble_eq_true rfl)) dX3_compose_23 ⟨(by rw [hRc]; omega), (by rw [hRs]; omega)⟩) hS (fun r u8 H locs hu hW hS => ?_)
  rw [hu]
  have hW : Wd D S0 (((b 0), .inr (4, [.int (nI 1), .int (nI sg.1.length), .ref (b 1), .int (nI sg.2.1.length), .ref (b 2), .int (nI sg.2.2.1.length), .ref (b 3), .ref (b 4), .ref (b 5), .ref (mI w), .int (nI sg.2.2.2.2.length), .ref (b 6)])) :: ((b 1), fa cs 400 (mf w)) :: ((b 2), qa cs 2 12 (mg w 0)) :: ((b 3), qa cs 2 12 (mg w 1)) :: ((b 4), qa cs 2 12 (mg w 2)) :: ((b 5), qa cs 2 12 (mg w 3)) :: ((b 6), qa cs 2 20 (mg w 4)) :: Z) H := hW
  refine W.widen (k := 0) (n := 0) (by omega) (by omega) ?_
  exact W.iret (v := nI 0) hx hb hr (fun t ht hW9 => ⟨⟨_, (w, []), rfl, ⟨fun h9 => absurd h9 (by decide), hF⟩, (by show Wd D S0 _ _; rw [ht]; exact hW)⟩, hS.F ht⟩) (fun q9 h9 => hS.2.2 q9 h9) dX3_compose_26

set_option maxHeartbeats 4000000 in
set_option maxRecDepth 100000 in
theorem c_X3_compose_c (l : Launch) (D : va_G) (cs : Nat → ClassId) (S0 : Nat) (Z : va_W) (b : Nat → Nat) (w : MU) (sg : St) (hF : MF cs w sg Z) (th : Int32) (j9 : Nat) (hj : j9 < sg.2.2.1.length) (k9 : Nat) (hk : k9 < sg.2.2.1.length) (hne : eqL (psN sg.2.2.1 j9).2.1 (psN sg.2.2.1 k9).1 = false)  : Met l yX3_compose wsX3_compose ({ frames := 2, cells := 0, slots := 0, locals := 43 }) (zM [.ref (b 0), .int (nI j9), .int (nI k9)] (fun H => Wd D S0 (MW cs b w (th) sg Z) H) D cs) (va_Qi (fun r (v : MU × va_W) => ((2 : Nat) = 0 → r = nI 0) ∧ MF cs v.1 sg (v.2 ++ Z)) (fun v t => Wd D S0 (MW cs b v.1 (nI 2) sg (v.2 ++ Z)) t.heap) (SA S0)) 0 0 (SA S0) := by
  refine Met.ofW (cc := cX3_compose) (maxL := 5) (ret := (some .int)) (by decide) rfl ?_
  intro p e s m args below meth c s₁ B hml hv
  obtain ⟨rfl, hW, hK, hA9⟩ := hv
  have hx := B.exec
  have hb := B.bytes
  have hr := B.returns
  have hts := atoms_spec (ws := wsX3_compose) B.pre
  have hown : s.vm.findClass RX3 = some m.cls := findClass_of_methodNamed B.named
  have hlocks := B.notSynchronized
  have hRc : (headSpec wsX3_compose ({ frames := 2, cells := 0, slots := 0, locals := 43 })).room.cells = 0 := rfl
  have hRs : (headSpec wsX3_compose ({ frames := 2, cells := 0, slots := 0, locals := 43 })).room.slots = 0 := rfl
  have fl18 := hts (.fieldLink RX3 18 "DeltaUpdaterModel" "bases" "[[I") (by decide +kernel)
  have fl21 := hts (.fieldLink RX3 21 "DeltaUpdaterModel" "goals" "[[I") (by decide +kernel)
  have fl33 := hts (.fieldLink RX3 33 "DeltaUpdaterModel" "thrown" "I") (by decide +kernel)
  have in4 : ∀ w ∈ u_ws RX3 TX3 12, w ∈ wsX3_compose := by decide +kernel
  have hW : Wd D S0 (MW cs b w (th) sg Z) s.heap := hW
  have hS0 : S0 ≤ s.heap.size := hW.2.2
  have hS : va_S (SA S0) s.heap s.heap [] := va_S.rf
  have hl := lv_entry ([.ref (b 0), .int (nI j9), .int (nI k9)]) (n := 5) (Nat.le_of_ble_eq_true rfl)
  rw [lg_entry_eq]
  generalize (lg_sl ([.ref (b 0), .int (nI j9), .int (nI k9)]) ++ List.replicate (5 - (lg_sl ([.ref (b 0), .int (nI j9), .int (nI k9)])).length) Slot.unset).toArray = ls at hl ⊢
  have hl : lv_has ls 5 [(0, .ref (b 0)), (1, .int (nI j9)), (2, .int (nI k9))] := hl
  have hok := hF.2.2.2.2.2
  have hbl := hok.1.1
  have hnv := hok.2.1.1
  have hnp := hok.2.2.1.1
  have hnh := hok.2.2.2.2.1
  have hji := vI_in hj (show sg.2.2.1.length < 2 ^ 30 by omega)
  have hki := vI_in hk (show sg.2.2.1.length < 2 ^ 30 by omega)
  refine lv_aload_n hx hb dX3_compose_0 rfl (lv_at hl 0 rfl) ?_
  refine lv_iconst (v := nI 0) hx hb dX3_compose_1 (by decide) ?_
  refine z_put (ty := .int) (ci := 4) (v := .int (nI 0)) (C := RX3) (T := TX3) (N := 12) hx hb hts in4 tyX3 tyX3_ok nmX3 hown hK hW hS 0 rfl rfl 0 (by decide) fl33 (fun _ h9 => h9) rfl (by decide +kernel) rfl rfl (Nat.le_of_ble_eq_true rfl) dX3_compose_2 (fun H locs hW hS => ?_)
  have hW : Wd D S0 (((b 0), .inr (4, [.int (nI 0), .int (nI sg.1.length), .ref (b 1), .int (nI sg.2.1.length), .ref (b 2), .int (nI sg.2.2.1.length), .ref (b 3), .ref (b 4), .ref (b 5), .ref (mI w), .int (nI sg.2.2.2.2.length), .ref (b 6)])) :: ((b 1), fa cs 400 (mf w)) :: ((b 2), qa cs 2 12 (mg w 0)) :: ((b 3), qa cs 2 12 (mg w 1)) :: ((b 4), qa cs 2 12 (mg w 2)) :: ((b 5), qa cs 2 12 (mg w 3)) :: ((b 6), qa cs 2 20 (mg w 4)) :: Z) H := hW
  refine lv_aload_n hx hb dX3_compose_5 rfl (lv_at hl 0 rfl) ?_
  refine lv_iload_n hx hb dX3_compose_6 rfl (lv_at hl 1 rfl) ?_
  refine z_csV (As := [.int (nI j9)]) (rest := []) ⟨hx, hb, hml, hown, hts⟩ (c_X3_isPatch l D cs (b 0) [.int (nI 0), .int (nI sg.1.length), .ref (b 1), .int (nI sg.2.1.length), .ref (b 2), .int (nI sg.2.2.1.length), .ref (b 3), .ref (b 4), .ref (b 5), .ref (mI w), .int (nI sg.2.2.2.2.length), .ref (b 6)] (nI j9) sg.2.2.1.length rfl) (cwV 1 hts gX3_compose_X3_isPatch rfl rfl rfl (by decide +kernel) ⟨Nat.le_of_ble_eq_true rfl, Nat.le_of_ble_eq_true rfl⟩) (hW.1 0 _ rfl) rfl (hW.1 0 _ rfl) hK rfl hl.1 rfl (Nat.le_of_ble_eq_true rfl) dX3_compose_7 ⟨(by rw [hRc]; omega), (by rw [hRs]; omega)⟩ (fun r hq9 => ?_)
  have hq9 : r = bI (vI (nI j9) sg.2.2.1.length) := hq9
  subst hq9
  refine z_ifb_eq (tgt := 21) hx hb dX3_compose_10 (by decide) (fun h9 => absurd (h9.symm.trans hji) (by decide)) (fun _ => ?_)
  refine lv_aload_n hx hb dX3_compose_13 rfl (lv_at hl 0 rfl) ?_
  refine lv_iload_n hx hb dX3_compose_14 rfl (lv_at hl 2 rfl) ?_
  refine z_csV (As := [.int (nI k9)]) (rest := []) ⟨hx, hb, hml, hown, hts⟩ (c_X3_isPatch l D cs (b 0) [.int (nI 0), .int (nI sg.1.length), .ref (b 1), .int (nI sg.2.1.length), .ref (b 2), .int (nI sg.2.2.1.length), .ref (b 3), .ref (b 4), .ref (b 5), .ref (mI w), .int (nI sg.2.2.2.2.length), .ref (b 6)] (nI k9) sg.2.2.1.length rfl) (cwV 1 hts gX3_compose_X3_isPatch rfl rfl rfl (by decide +kernel) ⟨Nat.le_of_ble_eq_true rfl, Nat.le_of_ble_eq_true rfl⟩) (hW.1 0 _ rfl) rfl (hW.1 0 _ rfl) hK rfl hl.1 rfl (Nat.le_of_ble_eq_true rfl) dX3_compose_15 ⟨(by rw [hRc]; omega), (by rw [hRs]; omega)⟩ (fun r hq9 => ?_)
  have hq9 : r = bI (vI (nI k9) sg.2.2.1.length) := hq9
  subst hq9
  refine z_ifb_ne (tgt := 27) hx hb dX3_compose_18 (by decide) (fun _ => ?_) (fun h9 => absurd (h9.symm.trans hki) (by decide))
  refine lv_aload_n hx hb dX3_compose_27 rfl (lv_at hl 0 rfl) ?_
  refine z_get (ci := 4) (v := .ref (b 4)) (C := RX3) (T := TX3) (N := 12) hx hb hts in4 hown hK (hW.1 0 _ rfl) rfl 7 (by decide) fl21 (fun _ h9 => h9) rfl dX3_compose_28 ?_
  refine lv_iload_n hx hb dX3_compose_31 rfl (lv_at hl 1 rfl) ?_
  refine z_aald (k := j9) (y := (mA w 2 j9)) (t0 := 2) hx hb hK (hW.1 4 _ rfl) rfl rfl (by omega) (by omega) (hF.2.2.1 j9 hj).2.1.1 dX3_compose_32 ?_
  refine lv_aload_n hx hb dX3_compose_33 rfl (lv_at hl 0 rfl) ?_
  refine z_get (ci := 4) (v := .ref (b 3)) (C := RX3) (T := TX3) (N := 12) hx hb hts in4 hown hK (hW.1 0 _ rfl) rfl 6 (by decide) fl18 (fun _ h9 => h9) rfl dX3_compose_34 ?_
  refine lv_iload_n hx hb dX3_compose_37 rfl (lv_at hl 2 rfl) ?_
  refine z_aald (k := k9) (y := (mA w 1 k9)) (t0 := 2) hx hb hK (hW.1 3 _ rfl) rfl rfl (by omega) (by omega) (hF.2.2.1 k9 hk).1.1 dX3_compose_38 ?_
  refine z_csS (As := [.ref (mA w 2 j9), .ref (mA w 1 k9)]) (rest := []) ⟨hx, hb, hml, hown, hts⟩ (c_X3_are l D cs (mA w 2 j9) (mA w 1 k9) ((psN sg.2.2.1 j9).2.1.length) ((psN sg.2.2.1 k9).1.length) (bb (psN sg.2.2.1 j9).2.1) (bb (psN sg.2.2.1 k9).1) (by have := (hok.2.2.1.2 j9 hj).2.1.1; omega) (by have := (hok.2.2.1.2 k9 hk).1.1; omega)) (va_cwS 2 hts gX3_compose_X3_are rfl rfl rfl (by decide +kernel) ⟨Nat.le_of_ble_eq_true rfl, Nat.le_of_ble_eq_true rfl⟩) ⟨(hW.mem (List.mem_cons_of_mem _ (List.mem_cons_of_mem _ (List.mem_cons_of_mem _ (List.mem_cons_of_mem _ (List.mem_cons_of_mem _ (List.mem_cons_of_mem _ (List.mem_cons_of_mem _ (hF.2.2.1 j9 hj).2.1.2)))))))), (hW.mem (List.mem_cons_of_mem _ (List.mem_cons_of_mem _ (List.mem_cons_of_mem _ (List.mem_cons_of_mem _ (List.mem_cons_of_mem _ (List.mem_cons_of_mem _ (List.mem_cons_of_mem _ (hF.2.2.1 k9 hk).1.2))))))))⟩ hK rfl hl.1 rfl (Nat.le_of_ble_eq_true rfl) dX3_compose_39 ⟨(by rw [hRc]; omega), (by rw [hRs]; omega)⟩ (fun r hq9 => ?_)
  have hq9 : r = bI (eqL (psN sg.2.2.1 j9).2.1 (psN sg.2.2.1 k9).1) := hq9
  subst hq9
  refine z_ifb_ne (tgt := 51) hx hb dX3_compose_42 (by decide) (fun h9 => absurd (h9.symm.trans hne) (by decide)) (fun _ => ?_)
  refine lv_aload_n hx hb dX3_compose_45 rfl (lv_at hl 0 rfl) ?_
  refine lv_iconst (v := nI 2) hx hb dX3_compose_46 (by decide) ?_
  refine z_cmI (va_runV (As := [.int (nI 2)]) (rest := []) ⟨hx, hb, hml, hown, hts⟩ (c_X3_fail l D cs S0 Z b w (nI 0) (nI 2) sg) (cwV 1 hts gX3_compose_X3_fail rfl rfl rfl (by decide +kernel) ⟨Nat.le_of_ble_eq_true rfl, Nat.le_of_ble_eq_true rfl⟩) ⟨zP_blind, z_recv hK (hW.1 0 _ rfl) rfl, (zP_pre hW hK)⟩ rfl rfl hl.1 rfl (lv_room (Nat.le_of_ble_eq_true rfl)) dX3_compose_47 ⟨(by rw [hRc]; omega), (by rw [hRs]; omega)⟩) hS (fun r u8 H locs hu hW hS => ?_)
  rw [hu]
  have hW : Wd D S0 (((b 0), .inr (4, [.int (nI 2), .int (nI sg.1.length), .ref (b 1), .int (nI sg.2.1.length), .ref (b 2), .int (nI sg.2.2.1.length), .ref (b 3), .ref (b 4), .ref (b 5), .ref (mI w), .int (nI sg.2.2.2.2.length), .ref (b 6)])) :: ((b 1), fa cs 400 (mf w)) :: ((b 2), qa cs 2 12 (mg w 0)) :: ((b 3), qa cs 2 12 (mg w 1)) :: ((b 4), qa cs 2 12 (mg w 2)) :: ((b 5), qa cs 2 12 (mg w 3)) :: ((b 6), qa cs 2 20 (mg w 4)) :: Z) H := hW
  refine W.widen (k := 0) (n := 0) (by omega) (by omega) ?_
  exact W.iret (v := nI 0) hx hb hr (fun t ht hW9 => ⟨⟨_, (w, []), rfl, ⟨fun h9 => absurd h9 (by decide), hF⟩, (by show Wd D S0 _ _; rw [ht]; exact hW)⟩, hS.F ht⟩) (fun q9 h9 => hS.2.2 q9 h9) dX3_compose_50

set_option maxHeartbeats 4000000 in
set_option maxRecDepth 100000 in
theorem c_X3_compose_d (l : Launch) (D : va_G) (cs : Nat → ClassId) (S0 : Nat) (Z : va_W) (b : Nat → Nat) (w : MU) (sg : St) (hF : MF cs w sg Z) (th : Int32) (j9 : Nat) (hj : j9 < sg.2.2.1.length) (k9 : Nat) (hk : k9 < sg.2.2.1.length) (hee : eqL (psN sg.2.2.1 j9).2.1 (psN sg.2.2.1 k9).1 = true) (hfull : 12 ≤ sg.2.2.1.length)  : Met l yX3_compose wsX3_compose ({ frames := 2, cells := 0, slots := 0, locals := 43 }) (zM [.ref (b 0), .int (nI j9), .int (nI k9)] (fun H => Wd D S0 (MW cs b w (th) sg Z) H) D cs) (va_Qi (fun r (v : MU × va_W) => ((3 : Nat) = 0 → r = nI 0) ∧ MF cs v.1 sg (v.2 ++ Z)) (fun v t => Wd D S0 (MW cs b v.1 (nI 3) sg (v.2 ++ Z)) t.heap) (SA S0)) 0 0 (SA S0) := by
  refine Met.ofW (cc := cX3_compose) (maxL := 5) (ret := (some .int)) (by decide) rfl ?_
  intro p e s m args below meth c s₁ B hml hv
  obtain ⟨rfl, hW, hK, hA9⟩ := hv
  have hx := B.exec
  have hb := B.bytes
  have hr := B.returns
  have hts := atoms_spec (ws := wsX3_compose) B.pre
  have hown : s.vm.findClass RX3 = some m.cls := findClass_of_methodNamed B.named
  have hlocks := B.notSynchronized
  have hRc : (headSpec wsX3_compose ({ frames := 2, cells := 0, slots := 0, locals := 43 })).room.cells = 0 := rfl
  have hRs : (headSpec wsX3_compose ({ frames := 2, cells := 0, slots := 0, locals := 43 })).room.slots = 0 := rfl
  have fl18 := hts (.fieldLink RX3 18 "DeltaUpdaterModel" "bases" "[[I") (by decide +kernel)
  have fl21 := hts (.fieldLink RX3 21 "DeltaUpdaterModel" "goals" "[[I") (by decide +kernel)
  have fl33 := hts (.fieldLink RX3 33 "DeltaUpdaterModel" "thrown" "I") (by decide +kernel)
  have fl44 := hts (.fieldLink RX3 44 "DeltaUpdaterModel" "patches" "I") (by decide +kernel)
  have in4 : ∀ w ∈ u_ws RX3 TX3 12, w ∈ wsX3_compose := by decide +kernel
  have hW : Wd D S0 (MW cs b w (th) sg Z) s.heap := hW
  have hS0 : S0 ≤ s.heap.size := hW.2.2
  have hS : va_S (SA S0) s.heap s.heap [] := va_S.rf
  have hl := lv_entry ([.ref (b 0), .int (nI j9), .int (nI k9)]) (n := 5) (Nat.le_of_ble_eq_true rfl)
  rw [lg_entry_eq]
  generalize (lg_sl ([.ref (b 0), .int (nI j9), .int (nI k9)]) ++ List.replicate (5 - (lg_sl ([.ref (b 0), .int (nI j9), .int (nI k9)])).length) Slot.unset).toArray = ls at hl ⊢
  have hl : lv_has ls 5 [(0, .ref (b 0)), (1, .int (nI j9)), (2, .int (nI k9))] := hl
  have hok := hF.2.2.2.2.2
  have hbl := hok.1.1
  have hnv := hok.2.1.1
  have hnp := hok.2.2.1.1
  have hnh := hok.2.2.2.2.1
  have hji := vI_in hj (show sg.2.2.1.length < 2 ^ 30 by omega)
  have hki := vI_in hk (show sg.2.2.1.length < 2 ^ 30 by omega)
  refine lv_aload_n hx hb dX3_compose_0 rfl (lv_at hl 0 rfl) ?_
  refine lv_iconst (v := nI 0) hx hb dX3_compose_1 (by decide) ?_
  refine z_put (ty := .int) (ci := 4) (v := .int (nI 0)) (C := RX3) (T := TX3) (N := 12) hx hb hts in4 tyX3 tyX3_ok nmX3 hown hK hW hS 0 rfl rfl 0 (by decide) fl33 (fun _ h9 => h9) rfl (by decide +kernel) rfl rfl (Nat.le_of_ble_eq_true rfl) dX3_compose_2 (fun H locs hW hS => ?_)
  have hW : Wd D S0 (((b 0), .inr (4, [.int (nI 0), .int (nI sg.1.length), .ref (b 1), .int (nI sg.2.1.length), .ref (b 2), .int (nI sg.2.2.1.length), .ref (b 3), .ref (b 4), .ref (b 5), .ref (mI w), .int (nI sg.2.2.2.2.length), .ref (b 6)])) :: ((b 1), fa cs 400 (mf w)) :: ((b 2), qa cs 2 12 (mg w 0)) :: ((b 3), qa cs 2 12 (mg w 1)) :: ((b 4), qa cs 2 12 (mg w 2)) :: ((b 5), qa cs 2 12 (mg w 3)) :: ((b 6), qa cs 2 20 (mg w 4)) :: Z) H := hW
  refine lv_aload_n hx hb dX3_compose_5 rfl (lv_at hl 0 rfl) ?_
  refine lv_iload_n hx hb dX3_compose_6 rfl (lv_at hl 1 rfl) ?_
  refine z_csV (As := [.int (nI j9)]) (rest := []) ⟨hx, hb, hml, hown, hts⟩ (c_X3_isPatch l D cs (b 0) [.int (nI 0), .int (nI sg.1.length), .ref (b 1), .int (nI sg.2.1.length), .ref (b 2), .int (nI sg.2.2.1.length), .ref (b 3), .ref (b 4), .ref (b 5), .ref (mI w), .int (nI sg.2.2.2.2.length), .ref (b 6)] (nI j9) sg.2.2.1.length rfl) (cwV 1 hts gX3_compose_X3_isPatch rfl rfl rfl (by decide +kernel) ⟨Nat.le_of_ble_eq_true rfl, Nat.le_of_ble_eq_true rfl⟩) (hW.1 0 _ rfl) rfl (hW.1 0 _ rfl) hK rfl hl.1 rfl (Nat.le_of_ble_eq_true rfl) dX3_compose_7 ⟨(by rw [hRc]; omega), (by rw [hRs]; omega)⟩ (fun r hq9 => ?_)
  have hq9 : r = bI (vI (nI j9) sg.2.2.1.length) := hq9
  subst hq9
  refine z_ifb_eq (tgt := 21) hx hb dX3_compose_10 (by decide) (fun h9 => absurd (h9.symm.trans hji) (by decide)) (fun _ => ?_)
  refine lv_aload_n hx hb dX3_compose_13 rfl (lv_at hl 0 rfl) ?_
  refine lv_iload_n hx hb dX3_compose_14 rfl (lv_at hl 2 rfl) ?_
  refine z_csV (As := [.int (nI k9)]) (rest := []) ⟨hx, hb, hml, hown, hts⟩ (c_X3_isPatch l D cs (b 0) [.int (nI 0), .int (nI sg.1.length), .ref (b 1), .int (nI sg.2.1.length), .ref (b 2), .int (nI sg.2.2.1.length), .ref (b 3), .ref (b 4), .ref (b 5), .ref (mI w), .int (nI sg.2.2.2.2.length), .ref (b 6)] (nI k9) sg.2.2.1.length rfl) (cwV 1 hts gX3_compose_X3_isPatch rfl rfl rfl (by decide +kernel) ⟨Nat.le_of_ble_eq_true rfl, Nat.le_of_ble_eq_true rfl⟩) (hW.1 0 _ rfl) rfl (hW.1 0 _ rfl) hK rfl hl.1 rfl (Nat.le_of_ble_eq_true rfl) dX3_compose_15 ⟨(by rw [hRc]; omega), (by rw [hRs]; omega)⟩ (fun r hq9 => ?_)
  have hq9 : r = bI (vI (nI k9) sg.2.2.1.length) := hq9
  subst hq9
  refine z_ifb_ne (tgt := 27) hx hb dX3_compose_18 (by decide) (fun _ => ?_) (fun h9 => absurd (h9.symm.trans hki) (by decide))
  refine lv_aload_n hx hb dX3_compose_27 rfl (lv_at hl 0 rfl) ?_
  refine z_get (ci := 4) (v := .ref (b 4)) (C := RX3) (T := TX3) (N := 12) hx hb hts in4 hown hK (hW.1 0 _ rfl) rfl 7 (by decide) fl21 (fun _ h9 => h9) rfl dX3_compose_28 ?_
  refine lv_iload_n hx hb dX3_compose_31 rfl (lv_at hl 1 rfl) ?_
  refine z_aald (k := j9) (y := (mA w 2 j9)) (t0 := 2) hx hb hK (hW.1 4 _ rfl) rfl rfl (by omega) (by omega) (hF.2.2.1 j9 hj).2.1.1 dX3_compose_32 ?_
  refine lv_aload_n hx hb dX3_compose_33 rfl (lv_at hl 0 rfl) ?_
  refine z_get (ci := 4) (v := .ref (b 3)) (C := RX3) (T := TX3) (N := 12) hx hb hts in4 hown hK (hW.1 0 _ rfl) rfl 6 (by decide) fl18 (fun _ h9 => h9) rfl dX3_compose_34 ?_
  refine lv_iload_n hx hb dX3_compose_37 rfl (lv_at hl 2 rfl) ?_
  refine z_aald (k := k9) (y := (mA w 1 k9)) (t0 := 2) hx hb hK (hW.1 3 _ rfl) rfl rfl (by omega) (by omega) (hF.2.2.1 k9 hk).1.1 dX3_compose_38 ?_
  refine z_csS (As := [.ref (mA w 2 j9), .ref (mA w 1 k9)]) (rest := []) ⟨hx, hb, hml, hown, hts⟩ (c_X3_are l D cs (mA w 2 j9) (mA w 1 k9) ((psN sg.2.2.1 j9).2.1.length) ((psN sg.2.2.1 k9).1.length) (bb (psN sg.2.2.1 j9).2.1) (bb (psN sg.2.2.1 k9).1) (by have := (hok.2.2.1.2 j9 hj).2.1.1; omega) (by have := (hok.2.2.1.2 k9 hk).1.1; omega)) (va_cwS 2 hts gX3_compose_X3_are rfl rfl rfl (by decide +kernel) ⟨Nat.le_of_ble_eq_true rfl, Nat.le_of_ble_eq_true rfl⟩) ⟨(hW.mem (List.mem_cons_of_mem _ (List.mem_cons_of_mem _ (List.mem_cons_of_mem _ (List.mem_cons_of_mem _ (List.mem_cons_of_mem _ (List.mem_cons_of_mem _ (List.mem_cons_of_mem _ (hF.2.2.1 j9 hj).2.1.2)))))))), (hW.mem (List.mem_cons_of_mem _ (List.mem_cons_of_mem _ (List.mem_cons_of_mem _ (List.mem_cons_of_mem _ (List.mem_cons_of_mem _ (List.mem_cons_of_mem _ (List.mem_cons_of_mem _ (hF.2.2.1 k9 hk).1.2))))))))⟩ hK rfl hl.1 rfl (Nat.le_of_ble_eq_true rfl) dX3_compose_39 ⟨(by rw [hRc]; omega), (by rw [hRs]; omega)⟩ (fun r hq9 => ?_)
  have hq9 : r = bI (eqL (psN sg.2.2.1 j9).2.1 (psN sg.2.2.1 k9).1) := hq9
  subst hq9
  refine z_ifb_ne (tgt := 51) hx hb dX3_compose_42 (by decide) (fun _ => ?_) (fun h9 => absurd (h9.symm.trans hee) (by decide))
  refine lv_aload_n hx hb dX3_compose_51 rfl (lv_at hl 0 rfl) ?_
  refine z_get (ci := 4) (v := .int (nI sg.2.2.1.length)) (C := RX3) (T := TX3) (N := 12) hx hb hts in4 hown hK (hW.1 0 _ rfl) rfl 5 (by decide) fl44 (fun _ h9 => h9) rfl dX3_compose_52 ?_
  refine lv_bipush (v := nI 12) hx hb dX3_compose_55 (by decide) ?_
  refine z_icmp_ne (tgt := 66) hx hb (by omega) (by omega) dX3_compose_57 (by decide) (fun hc57 => ?_) (fun hc57 => ?_)
  · skip
    have hc57 : ¬ sg.2.2.1.length = 12 := hc57
    omega
  · skip
    have hc57 : sg.2.2.1.length = 12 := hc57
    refine lv_aload_n hx hb dX3_compose_60 rfl (lv_at hl 0 rfl) ?_
    refine lv_iconst (v := nI 3) hx hb dX3_compose_61 (by decide) ?_
    refine z_cmI (va_runV (As := [.int (nI 3)]) (rest := []) ⟨hx, hb, hml, hown, hts⟩ (c_X3_fail l D cs S0 Z b w (nI 0) (nI 3) sg) (cwV 1 hts gX3_compose_X3_fail rfl rfl rfl (by decide +kernel) ⟨Nat.le_of_ble_eq_true rfl, Nat.le_of_ble_eq_true rfl⟩) ⟨zP_blind, z_recv hK (hW.1 0 _ rfl) rfl, (zP_pre hW hK)⟩ rfl rfl hl.1 rfl (lv_room (Nat.le_of_ble_eq_true rfl)) dX3_compose_62 ⟨(by rw [hRc]; omega), (by rw [hRs]; omega)⟩) hS (fun r u8 H locs hu hW hS => ?_)
    rw [hu]
    have hW : Wd D S0 (((b 0), .inr (4, [.int (nI 3), .int (nI sg.1.length), .ref (b 1), .int (nI sg.2.1.length), .ref (b 2), .int (nI sg.2.2.1.length), .ref (b 3), .ref (b 4), .ref (b 5), .ref (mI w), .int (nI sg.2.2.2.2.length), .ref (b 6)])) :: ((b 1), fa cs 400 (mf w)) :: ((b 2), qa cs 2 12 (mg w 0)) :: ((b 3), qa cs 2 12 (mg w 1)) :: ((b 4), qa cs 2 12 (mg w 2)) :: ((b 5), qa cs 2 12 (mg w 3)) :: ((b 6), qa cs 2 20 (mg w 4)) :: Z) H := hW
    refine W.widen (k := 0) (n := 0) (by omega) (by omega) ?_
    exact W.iret (v := nI 0) hx hb hr (fun t ht hW9 => ⟨⟨_, (w, []), rfl, ⟨fun h9 => absurd h9 (by decide), hF⟩, (by show Wd D S0 _ _; rw [ht]; exact hW)⟩, hS.F ht⟩) (fun q9 h9 => hS.2.2 q9 h9) dX3_compose_65

set_option maxHeartbeats 4000000 in
set_option maxRecDepth 100000 in
theorem c_X3_compose (l : Launch) (D : va_G) (cs : Nat → ClassId) (S0 : Nat) (Z : va_W) (b : Nat → Nat) (w : MU) (sg : St) (hF : MF cs w sg Z) (th : Int32) (j9 : Nat) (hj : j9 < sg.2.2.1.length) (k9 : Nat) (hk : k9 < sg.2.2.1.length) (hee : eqL (psN sg.2.2.1 j9).2.1 (psN sg.2.2.1 k9).1 = true) (hroom : sg.2.2.1.length < 12)  : Met l yX3_compose wsX3_compose ({ frames := 2, cells := 1, slots := 400, locals := 43 }) (zM [.ref (b 0), .int (nI j9), .int (nI k9)] (fun H => Wd D S0 (MW cs b w (th) sg Z) H) D cs) (va_Qi (fun r (v : MU × va_W) => ((0 : Nat) = 0 → r = nI sg.2.2.1.length) ∧ MF cs v.1 (stP sg (((psN sg.2.2.1 j9).1, (psN sg.2.2.1 k9).2.1, ((List.range (psN sg.2.2.1 k9).2.1.length).map (cmpO (rf (psN sg.2.2.1 j9).2.2) (rf (psN sg.2.2.1 k9).2.2)))) : Pt)) (v.2 ++ Z)) (fun v t => Wd D S0 (MW cs b v.1 (nI 0) (stP sg (((psN sg.2.2.1 j9).1, (psN sg.2.2.1 k9).2.1, ((List.range (psN sg.2.2.1 k9).2.1.length).map (cmpO (rf (psN sg.2.2.1 j9).2.2) (rf (psN sg.2.2.1 k9).2.2)))) : Pt)) (v.2 ++ Z)) t.heap) (SA S0)) 1 400 (SA S0) := by
  refine Met.ofW (cc := cX3_compose) (maxL := 5) (ret := (some .int)) (by decide) rfl ?_
  intro p e s m args below meth c s₁ B hml hv
  obtain ⟨rfl, hW, hK, hA9⟩ := hv
  have hx := B.exec
  have hb := B.bytes
  have hr := B.returns
  have hts := atoms_spec (ws := wsX3_compose) B.pre
  have hown : s.vm.findClass RX3 = some m.cls := findClass_of_methodNamed B.named
  have hlocks := B.notSynchronized
  have hRc : (headSpec wsX3_compose ({ frames := 2, cells := 1, slots := 400, locals := 43 })).room.cells = 1 := rfl
  have hRs : (headSpec wsX3_compose ({ frames := 2, cells := 1, slots := 400, locals := 43 })).room.slots = 400 := rfl
  have fl18 := hts (.fieldLink RX3 18 "DeltaUpdaterModel" "bases" "[[I") (by decide +kernel)
  have fl21 := hts (.fieldLink RX3 21 "DeltaUpdaterModel" "goals" "[[I") (by decide +kernel)
  have fl24 := hts (.fieldLink RX3 24 "DeltaUpdaterModel" "origins" "[[I") (by decide +kernel)
  have fl33 := hts (.fieldLink RX3 33 "DeltaUpdaterModel" "thrown" "I") (by decide +kernel)
  have fl44 := hts (.fieldLink RX3 44 "DeltaUpdaterModel" "patches" "I") (by decide +kernel)
  have in4 : ∀ w ∈ u_ws RX3 TX3 12, w ∈ wsX3_compose := by decide +kernel
  have hW : Wd D S0 (MW cs b w (th) sg Z) s.heap := hW
  have hS0 : S0 ≤ s.heap.size := hW.2.2
  have hS : va_S (SA S0) s.heap s.heap [] := va_S.rf
  have hl := lv_entry ([.ref (b 0), .int (nI j9), .int (nI k9)]) (n := 5) (Nat.le_of_ble_eq_true rfl)
  rw [lg_entry_eq]
  generalize (lg_sl ([.ref (b 0), .int (nI j9), .int (nI k9)]) ++ List.replicate (5 - (lg_sl ([.ref (b 0), .int (nI j9), .int (nI k9)])).length) Slot.unset).toArray = ls at hl ⊢
  have hl : lv_has ls 5 [(0, .ref (b 0)), (1, .int (nI j9)), (2, .int (nI k9))] := hl
  have hok := hF.2.2.2.2.2
  have hbl := hok.1.1
  have hnv := hok.2.1.1
  have hnp := hok.2.2.1.1
  have hnh := hok.2.2.2.2.1
  have hji := vI_in hj (show sg.2.2.1.length < 2 ^ 30 by omega)
  have hki := vI_in hk (show sg.2.2.1.length < 2 ^ 30 by omega)
  have hnj := (hok.2.2.1.2 j9 hj).2.1.1
  have hnk := (hok.2.2.1.2 k9 hk).2.1.1
  have hbg : (psN sg.2.2.1 k9).1 = (psN sg.2.2.1 j9).2.1 := (eqL_of (hok.2.2.1.2 j9 hj).2.1 (hok.2.2.1.2 k9 hk).1 hee).symm
  have hob : ∀ k, k < (psN sg.2.2.1 k9).2.1.length → rf (psN sg.2.2.1 k9).2.2 k = (-1) ∨ ∃ j, j < (psN sg.2.2.1 j9).2.1.length ∧ rf (psN sg.2.2.1 k9).2.2 k = nI j := by rw [← hbg]; exact (hok.2.2.1.2 k9 hk).2.2.2
  refine lv_aload_n hx hb dX3_compose_0 rfl (lv_at hl 0 rfl) ?_
  refine lv_iconst (v := nI 0) hx hb dX3_compose_1 (by decide) ?_
  refine z_put (ty := .int) (ci := 4) (v := .int (nI 0)) (C := RX3) (T := TX3) (N := 12) hx hb hts in4 tyX3 tyX3_ok nmX3 hown hK hW hS 0 rfl rfl 0 (by decide) fl33 (fun _ h9 => h9) rfl (by decide +kernel) rfl rfl (Nat.le_of_ble_eq_true rfl) dX3_compose_2 (fun H locs hW hS => ?_)
  have hW : Wd D S0 (((b 0), .inr (4, [.int (nI 0), .int (nI sg.1.length), .ref (b 1), .int (nI sg.2.1.length), .ref (b 2), .int (nI sg.2.2.1.length), .ref (b 3), .ref (b 4), .ref (b 5), .ref (mI w), .int (nI sg.2.2.2.2.length), .ref (b 6)])) :: ((b 1), fa cs 400 (mf w)) :: ((b 2), qa cs 2 12 (mg w 0)) :: ((b 3), qa cs 2 12 (mg w 1)) :: ((b 4), qa cs 2 12 (mg w 2)) :: ((b 5), qa cs 2 12 (mg w 3)) :: ((b 6), qa cs 2 20 (mg w 4)) :: Z) H := hW
  refine lv_aload_n hx hb dX3_compose_5 rfl (lv_at hl 0 rfl) ?_
  refine lv_iload_n hx hb dX3_compose_6 rfl (lv_at hl 1 rfl) ?_
  refine z_csV (As := [.int (nI j9)]) (rest := []) ⟨hx, hb, hml, hown, hts⟩ (c_X3_isPatch l D cs (b 0) [.int (nI 0), .int (nI sg.1.length), .ref (b 1), .int (nI sg.2.1.length), .ref (b 2), .int (nI sg.2.2.1.length), .ref (b 3), .ref (b 4), .ref (b 5), .ref (mI w), .int (nI sg.2.2.2.2.length), .ref (b 6)] (nI j9) sg.2.2.1.length rfl) (cwV 1 hts gX3_compose_X3_isPatch rfl rfl rfl (by decide +kernel) ⟨Nat.le_of_ble_eq_true rfl, Nat.le_of_ble_eq_true rfl⟩) (hW.1 0 _ rfl) rfl (hW.1 0 _ rfl) hK rfl hl.1 rfl (Nat.le_of_ble_eq_true rfl) dX3_compose_7 ⟨(by rw [hRc]; omega), (by rw [hRs]; omega)⟩ (fun r hq9 => ?_)
  have hq9 : r = bI (vI (nI j9) sg.2.2.1.length) := hq9
  subst hq9
  refine z_ifb_eq (tgt := 21) hx hb dX3_compose_10 (by decide) (fun h9 => absurd (h9.symm.trans hji) (by decide)) (fun _ => ?_)
  refine lv_aload_n hx hb dX3_compose_13 rfl (lv_at hl 0 rfl) ?_
  refine lv_iload_n hx hb dX3_compose_14 rfl (lv_at hl 2 rfl) ?_
  refine z_csV (As := [.int (nI k9)]) (rest := []) ⟨hx, hb, hml, hown, hts⟩ (c_X3_isPatch l D cs (b 0) [.int (nI 0), .int (nI sg.1.length), .ref (b 1), .int (nI sg.2.1.length), .ref (b 2), .int (nI sg.2.2.1.length), .ref (b 3), .ref (b 4), .ref (b 5), .ref (mI w), .int (nI sg.2.2.2.2.length), .ref (b 6)] (nI k9) sg.2.2.1.length rfl) (cwV 1 hts gX3_compose_X3_isPatch rfl rfl rfl (by decide +kernel) ⟨Nat.le_of_ble_eq_true rfl, Nat.le_of_ble_eq_true rfl⟩) (hW.1 0 _ rfl) rfl (hW.1 0 _ rfl) hK rfl hl.1 rfl (Nat.le_of_ble_eq_true rfl) dX3_compose_15 ⟨(by rw [hRc]; omega), (by rw [hRs]; omega)⟩ (fun r hq9 => ?_)
  have hq9 : r = bI (vI (nI k9) sg.2.2.1.length) := hq9
  subst hq9
  refine z_ifb_ne (tgt := 27) hx hb dX3_compose_18 (by decide) (fun _ => ?_) (fun h9 => absurd (h9.symm.trans hki) (by decide))
  refine lv_aload_n hx hb dX3_compose_27 rfl (lv_at hl 0 rfl) ?_
  refine z_get (ci := 4) (v := .ref (b 4)) (C := RX3) (T := TX3) (N := 12) hx hb hts in4 hown hK (hW.1 0 _ rfl) rfl 7 (by decide) fl21 (fun _ h9 => h9) rfl dX3_compose_28 ?_
  refine lv_iload_n hx hb dX3_compose_31 rfl (lv_at hl 1 rfl) ?_
  refine z_aald (k := j9) (y := (mA w 2 j9)) (t0 := 2) hx hb hK (hW.1 4 _ rfl) rfl rfl (by omega) (by omega) (hF.2.2.1 j9 hj).2.1.1 dX3_compose_32 ?_
  refine lv_aload_n hx hb dX3_compose_33 rfl (lv_at hl 0 rfl) ?_
  refine z_get (ci := 4) (v := .ref (b 3)) (C := RX3) (T := TX3) (N := 12) hx hb hts in4 hown hK (hW.1 0 _ rfl) rfl 6 (by decide) fl18 (fun _ h9 => h9) rfl dX3_compose_34 ?_
  refine lv_iload_n hx hb dX3_compose_37 rfl (lv_at hl 2 rfl) ?_
  refine z_aald (k := k9) (y := (mA w 1 k9)) (t0 := 2) hx hb hK (hW.1 3 _ rfl) rfl rfl (by omega) (by omega) (hF.2.2.1 k9 hk).1.1 dX3_compose_38 ?_
  refine z_csS (As := [.ref (mA w 2 j9), .ref (mA w 1 k9)]) (rest := []) ⟨hx, hb, hml, hown, hts⟩ (c_X3_are l D cs (mA w 2 j9) (mA w 1 k9) ((psN sg.2.2.1 j9).2.1.length) ((psN sg.2.2.1 k9).1.length) (bb (psN sg.2.2.1 j9).2.1) (bb (psN sg.2.2.1 k9).1) (by have := (hok.2.2.1.2 j9 hj).2.1.1; omega) (by have := (hok.2.2.1.2 k9 hk).1.1; omega)) (va_cwS 2 hts gX3_compose_X3_are rfl rfl rfl (by decide +kernel) ⟨Nat.le_of_ble_eq_true rfl, Nat.le_of_ble_eq_true rfl⟩) ⟨(hW.mem (List.mem_cons_of_mem _ (List.mem_cons_of_mem _ (List.mem_cons_of_mem _ (List.mem_cons_of_mem _ (List.mem_cons_of_mem _ (List.mem_cons_of_mem _ (List.mem_cons_of_mem _ (hF.2.2.1 j9 hj).2.1.2)))))))), (hW.mem (List.mem_cons_of_mem _ (List.mem_cons_of_mem _ (List.mem_cons_of_mem _ (List.mem_cons_of_mem _ (List.mem_cons_of_mem _ (List.mem_cons_of_mem _ (List.mem_cons_of_mem _ (hF.2.2.1 k9 hk).1.2))))))))⟩ hK rfl hl.1 rfl (Nat.le_of_ble_eq_true rfl) dX3_compose_39 ⟨(by rw [hRc]; omega), (by rw [hRs]; omega)⟩ (fun r hq9 => ?_)
  have hq9 : r = bI (eqL (psN sg.2.2.1 j9).2.1 (psN sg.2.2.1 k9).1) := hq9
  subst hq9
  refine z_ifb_ne (tgt := 51) hx hb dX3_compose_42 (by decide) (fun _ => ?_) (fun h9 => absurd (h9.symm.trans hee) (by decide))
  refine lv_aload_n hx hb dX3_compose_51 rfl (lv_at hl 0 rfl) ?_
  refine z_get (ci := 4) (v := .int (nI sg.2.2.1.length)) (C := RX3) (T := TX3) (N := 12) hx hb hts in4 hown hK (hW.1 0 _ rfl) rfl 5 (by decide) fl44 (fun _ h9 => h9) rfl dX3_compose_52 ?_
  refine lv_bipush (v := nI 12) hx hb dX3_compose_55 (by decide) ?_
  refine z_icmp_ne (tgt := 66) hx hb (by omega) (by omega) dX3_compose_57 (by decide) (fun hc57 => ?_) (fun hc57 => ?_)
  · skip
    have hc57 : ¬ sg.2.2.1.length = 12 := hc57
    refine lv_aload_n hx hb dX3_compose_66 rfl (lv_at hl 0 rfl) ?_
    refine z_get (ci := 4) (v := .ref (b 4)) (C := RX3) (T := TX3) (N := 12) hx hb hts in4 hown hK (hW.1 0 _ rfl) rfl 7 (by decide) fl21 (fun _ h9 => h9) rfl dX3_compose_67 ?_
    refine lv_iload_n hx hb dX3_compose_70 rfl (lv_at hl 2 rfl) ?_
    refine z_aald (k := k9) (y := (mA w 2 k9)) (t0 := 2) hx hb hK (hW.1 4 _ rfl) rfl rfl (by omega) (by omega) (hF.2.2.1 k9 hk).2.1.1 dX3_compose_71 ?_
    refine z_alen (n := ((psN sg.2.2.1 k9).2.1.length)) hx hb hK (hW.mem (List.mem_cons_of_mem _ (List.mem_cons_of_mem _ (List.mem_cons_of_mem _ (List.mem_cons_of_mem _ (List.mem_cons_of_mem _ (List.mem_cons_of_mem _ (List.mem_cons_of_mem _ (hF.2.2.1 k9 hk).2.1.2)))))))) dX3_compose_72 ?_
    refine z_newa (n := ((psN sg.2.2.1 k9).2.1.length)) hx hb (hts (.arrayClass .int) (by decide +kernel)) hK hW hS hS0 (by omega) (by rw [hRc]; omega) (by rw [hRs]; omega) dX3_compose_73 (fun q73 H hW hS => ?_)
    have hW := Wd.mv (M := [((b 0), .inr (4, [.int (nI 0), .int (nI sg.1.length), .ref (b 1), .int (nI sg.2.1.length), .ref (b 2), .int (nI sg.2.2.1.length), .ref (b 3), .ref (b 4), .ref (b 5), .ref (mI w), .int (nI sg.2.2.2.2.length), .ref (b 6)])), ((b 1), fa cs 400 (mf w)), ((b 2), qa cs 2 12 (mg w 0)), ((b 3), qa cs 2 12 (mg w 1)), ((b 4), qa cs 2 12 (mg w 2)), ((b 5), qa cs 2 12 (mg w 3)), ((b 6), qa cs 2 20 (mg w 4))]) hW
    have hW : Wd D S0 (((b 0), .inr (4, [.int (nI 0), .int (nI sg.1.length), .ref (b 1), .int (nI sg.2.1.length), .ref (b 2), .int (nI sg.2.2.1.length), .ref (b 3), .ref (b 4), .ref (b 5), .ref (mI w), .int (nI sg.2.2.2.2.length), .ref (b 6)])) :: ((b 1), fa cs 400 (mf w)) :: ((b 2), qa cs 2 12 (mg w 0)) :: ((b 3), qa cs 2 12 (mg w 1)) :: ((b 4), qa cs 2 12 (mg w 2)) :: ((b 5), qa cs 2 12 (mg w 3)) :: ((b 6), qa cs 2 20 (mg w 4)) :: (q73, fa cs ((psN sg.2.2.1 k9).2.1.length) (fun _ => 0)) :: Z) H := hW
    refine lv_astore_n (lv' := [(3, .ref q73), (0, .ref (b 0)), (1, .int (nI j9)), (2, .int (nI k9))]) hx hb dX3_compose_75 rfl hl (by decide) rfl (fun ls hl => ?_)
    refine lv_iconst (v := nI 0) hx hb dX3_compose_76 (by decide) ?_
    refine lv_istore (lv' := [(4, .int (nI 0)), (3, .ref q73), (0, .ref (b 0)), (1, .int (nI j9)), (2, .int (nI k9))]) hx hb dX3_compose_77 hl (by decide) rfl (fun ls hl => ?_)
    refine z_loopM (σ := Nat × (Nat → Int32)) (fun q9 => (psN sg.2.2.1 k9).2.1.length - q9.1) (fun q9 ls H locs => lv_has ls 5 [(4, .int (nI q9.1)), (0, .ref (b 0)), (1, .int (nI j9)), (2, .int (nI k9)), (3, .ref q73)] ∧ Wd D S0 (((b 0), .inr (4, [.int (nI 0), .int (nI sg.1.length), .ref (b 1), .int (nI sg.2.1.length), .ref (b 2), .int (nI sg.2.2.1.length), .ref (b 3), .ref (b 4), .ref (b 5), .ref (mI w), .int (nI sg.2.2.2.2.length), .ref (b 6)])) :: ((b 1), fa cs 400 (mf w)) :: ((b 2), qa cs 2 12 (mg w 0)) :: ((b 3), qa cs 2 12 (mg w 1)) :: ((b 4), qa cs 2 12 (mg w 2)) :: ((b 5), qa cs 2 12 (mg w 3)) :: ((b 6), qa cs 2 20 (mg w 4)) :: (q73, fa cs ((psN sg.2.2.1 k9).2.1.length) q9.2) :: Z) H ∧ va_S (SA S0) s.heap H locs ∧ (q9.1 ≤ (psN sg.2.2.1 k9).2.1.length) ∧ (∀ i, i < q9.1 → q9.2 i = cmpO (rf (psN sg.2.2.1 j9).2.2) (rf (psN sg.2.2.1 k9).2.2) i)) (0, (fun _ => 0)) ⟨lv_sub hl [0, 2, 3, 4, 1] rfl, hW, hS, (show 0 ≤ (psN sg.2.2.1 k9).2.1.length from Nat.zero_le _), (show ∀ i, i < 0 → (fun _ => 0) i = cmpO (rf (psN sg.2.2.1 j9).2.2) (rf (psN sg.2.2.1 k9).2.2) i from fun i hi => absurd hi (Nat.not_lt_zero i))⟩ (fun dd79 ih79 y9 ls H locs hd9 hI9 => ?_)
    obtain ⟨k, g⟩ := y9
    have hd79 : (psN sg.2.2.1 k9).2.1.length - k = dd79 := hd9
    have hI9 : lv_has ls 5 [(4, .int (nI k)), (0, .ref (b 0)), (1, .int (nI j9)), (2, .int (nI k9)), (3, .ref q73)] ∧ Wd D S0 (((b 0), .inr (4, [.int (nI 0), .int (nI sg.1.length), .ref (b 1), .int (nI sg.2.1.length), .ref (b 2), .int (nI sg.2.2.1.length), .ref (b 3), .ref (b 4), .ref (b 5), .ref (mI w), .int (nI sg.2.2.2.2.length), .ref (b 6)])) :: ((b 1), fa cs 400 (mf w)) :: ((b 2), qa cs 2 12 (mg w 0)) :: ((b 3), qa cs 2 12 (mg w 1)) :: ((b 4), qa cs 2 12 (mg w 2)) :: ((b 5), qa cs 2 12 (mg w 3)) :: ((b 6), qa cs 2 20 (mg w 4)) :: (q73, fa cs ((psN sg.2.2.1 k9).2.1.length) g) :: Z) H ∧ va_S (SA S0) s.heap H locs ∧ (k ≤ (psN sg.2.2.1 k9).2.1.length) ∧ (∀ i, i < k → g i = cmpO (rf (psN sg.2.2.1 j9).2.2) (rf (psN sg.2.2.1 k9).2.2) i) := hI9
    obtain ⟨hl, hW, hS, hk2, hg⟩ := hI9
    refine lv_iload hx hb dX3_compose_79 (lv_at hl 0 rfl) ?_
    refine lv_aload_n hx hb dX3_compose_81 rfl (lv_at hl 4 rfl) ?_
    refine z_alen (n := ((psN sg.2.2.1 k9).2.1.length)) hx hb hK (hW.1 7 _ rfl) dX3_compose_82 ?_
    refine z_icmp_ge (tgt := 129) hx hb (by omega) (by omega) dX3_compose_83 (by decide) (fun hc83 => ?_) (fun hc83 => ?_)
    · skip
      have hc83 : (psN sg.2.2.1 k9).2.1.length ≤ k := hc83
      have e9 : k = (psN sg.2.2.1 k9).2.1.length := by omega
      rw [e9] at hg
      have hW := hW.perm (List.perm_middle (l₁ := ML cs b w (nI 0) sg))
      have hW : Wd D S0 ((q73, fa cs (psN sg.2.2.1 k9).2.1.length g) :: MW cs b w (nI 0) sg Z) H := hW
      have hW := Wd.cong (fun i9 hi9 => (hg i9 hi9).trans (rf_map (n := (psN sg.2.2.1 k9).2.1.length) (F := cmpO (rf (psN sg.2.2.1 j9).2.2) (rf (psN sg.2.2.1 k9).2.2)) i9 hi9)) hW
      have hW := MW.grow (G := [(q73, fa cs (psN sg.2.2.1 k9).2.1.length (rf ((List.range (psN sg.2.2.1 k9).2.1.length).map (cmpO (rf (psN sg.2.2.1 j9).2.2) (rf (psN sg.2.2.1 k9).2.2)))))]) hW
      have hW : Wd D S0 (((b 0), .inr (4, [.int (nI 0), .int (nI sg.1.length), .ref (b 1), .int (nI sg.2.1.length), .ref (b 2), .int (nI sg.2.2.1.length), .ref (b 3), .ref (b 4), .ref (b 5), .ref (mI w), .int (nI sg.2.2.2.2.length), .ref (b 6)])) :: ((b 1), fa cs 400 (mf w)) :: ((b 2), qa cs 2 12 (mg w 0)) :: ((b 3), qa cs 2 12 (mg w 1)) :: ((b 4), qa cs 2 12 (mg w 2)) :: ((b 5), qa cs 2 12 (mg w 3)) :: ((b 6), qa cs 2 20 (mg w 4)) :: ([(q73, fa cs (psN sg.2.2.1 k9).2.1.length (rf ((List.range (psN sg.2.2.1 k9).2.1.length).map (cmpO (rf (psN sg.2.2.1 j9).2.2) (rf (psN sg.2.2.1 k9).2.2)))))] ++ Z)) H := hW
      refine lv_aload_n hx hb dX3_compose_129 rfl (lv_at hl 1 rfl) ?_
      refine lv_aload_n hx hb dX3_compose_130 rfl (lv_at hl 1 rfl) ?_
      refine z_get (ci := 4) (v := .ref (b 3)) (C := RX3) (T := TX3) (N := 12) hx hb hts in4 hown hK (hW.1 0 _ rfl) rfl 6 (by decide) fl18 (fun _ h9 => h9) rfl dX3_compose_131 ?_
      refine lv_iload_n hx hb dX3_compose_134 rfl (lv_at hl 2 rfl) ?_
      refine z_aald (k := j9) (y := (mA w 1 j9)) (t0 := 2) hx hb hK (hW.1 3 _ rfl) rfl rfl (by omega) (by omega) (hF.2.2.1 j9 hj).1.1 dX3_compose_135 ?_
      refine lv_aload_n hx hb dX3_compose_136 rfl (lv_at hl 1 rfl) ?_
      refine z_get (ci := 4) (v := .ref (b 4)) (C := RX3) (T := TX3) (N := 12) hx hb hts in4 hown hK (hW.1 0 _ rfl) rfl 7 (by decide) fl21 (fun _ h9 => h9) rfl dX3_compose_137 ?_
      refine lv_iload_n hx hb dX3_compose_140 rfl (lv_at hl 3 rfl) ?_
      refine z_aald (k := k9) (y := (mA w 2 k9)) (t0 := 2) hx hb hK (hW.1 4 _ rfl) rfl rfl (by omega) (by omega) (hF.2.2.1 k9 hk).2.1.1 dX3_compose_141 ?_
      refine lv_aload_n hx hb dX3_compose_142 rfl (lv_at hl 4 rfl) ?_
      refine z_cmI (va_runV (As := [.ref (mA w 1 j9), .ref (mA w 2 k9), .ref q73]) (rest := []) ⟨hx, hb, hml, hown, hts⟩ (c_X3_add l D cs S0 ([(q73, fa cs (psN sg.2.2.1 k9).2.1.length (rf ((List.range (psN sg.2.2.1 k9).2.1.length).map (cmpO (rf (psN sg.2.2.1 j9).2.2) (rf (psN sg.2.2.1 k9).2.2)))))] ++ Z) b w sg (hF.more (fun q9 h9 => List.mem_cons_of_mem _ h9)) (nI 0) (mA w 1 j9) (mA w 2 k9) q73 (((psN sg.2.2.1 j9).1, (psN sg.2.2.1 k9).2.1, ((List.range (psN sg.2.2.1 k9).2.1.length).map (cmpO (rf (psN sg.2.2.1 j9).2.2) (rf (psN sg.2.2.1 k9).2.2)))) : Pt) (List.mem_cons_of_mem _ (hF.2.2.1 j9 hj).1.2) (List.mem_cons_of_mem _ (hF.2.2.1 k9 hk).2.1.2) List.mem_cons_self ⟨(hok.2.2.1.2 j9 hj).1, (hok.2.2.1.2 k9 hk).2.1, rf_len, fun k hk2 => by rw [← rf_map (n := (psN sg.2.2.1 k9).2.1.length) (F := cmpO (rf (psN sg.2.2.1 j9).2.2) (rf (psN sg.2.2.1 k9).2.2)) k hk2]; exact cmp_ok (hok.2.2.1.2 j9 hj).2.2.2 hob hnj k hk2⟩ hroom) (cwV 3 hts gX3_compose_X3_add rfl rfl rfl (by decide +kernel) ⟨Nat.le_of_ble_eq_true rfl, Nat.le_of_ble_eq_true rfl⟩) ⟨zM_blind, z_recv hK (hW.1 0 _ rfl) rfl, (zM_pre hW hK hA9)⟩ rfl rfl hl.1 rfl (lv_room (Nat.le_of_ble_eq_true rfl)) dX3_compose_143 ⟨(by rw [hRc]; omega), (by rw [hRs]; omega)⟩) hS (fun r u8 H locs hu hW hS => ?_)
      obtain ⟨hu1, hu2⟩ := hu
      rw [hu1]
      rw [← List.append_assoc] at hW hu2
      refine W.widen (k := 1) (n := 400) (by omega) (by omega) ?_
      exact W.iret (v := nI sg.2.2.1.length) hx hb hr (fun t ht hW9 => ⟨⟨_, (u8.1, u8.2 ++ [(q73, fa cs (psN sg.2.2.1 k9).2.1.length (rf ((List.range (psN sg.2.2.1 k9).2.1.length).map (cmpO (rf (psN sg.2.2.1 j9).2.2) (rf (psN sg.2.2.1 k9).2.2)))))]), rfl, ⟨fun _ => rfl, hu2⟩, (by show Wd D S0 _ _; rw [ht]; exact hW)⟩, hS.F ht⟩) (fun q9 h9 => hS.2.2 q9 h9) dX3_compose_146
    · skip
      have hc83 : k < (psN sg.2.2.1 k9).2.1.length := hc83
      rcases hob k (by omega) with hz | ⟨jx, hjx, hz⟩
      · skip
        refine lv_aload_n hx hb dX3_compose_86 rfl (lv_at hl 4 rfl) ?_
        refine lv_iload hx hb dX3_compose_87 (lv_at hl 0 rfl) ?_
        refine lv_aload_n hx hb dX3_compose_89 rfl (lv_at hl 1 rfl) ?_
        refine z_get (ci := 4) (v := .ref (b 5)) (C := RX3) (T := TX3) (N := 12) hx hb hts in4 hown hK (hW.1 0 _ rfl) rfl 8 (by decide) fl24 (fun _ h9 => h9) rfl dX3_compose_90 ?_
        refine lv_iload_n hx hb dX3_compose_93 rfl (lv_at hl 3 rfl) ?_
        refine z_aald (k := k9) (y := (mA w 3 k9)) (t0 := 2) hx hb hK (hW.1 5 _ rfl) rfl rfl (by omega) (by omega) (hF.2.2.1 k9 hk).2.2.1 dX3_compose_94 ?_
        refine lv_iload hx hb dX3_compose_95 (lv_at hl 0 rfl) ?_
        refine z_iald (k := k) (f := (rf (psN sg.2.2.1 k9).2.2)) hx hb hK (hW.mem (List.mem_cons_of_mem _ (List.mem_cons_of_mem _ (List.mem_cons_of_mem _ (List.mem_cons_of_mem _ (List.mem_cons_of_mem _ (List.mem_cons_of_mem _ (List.mem_cons_of_mem _ (List.mem_cons_of_mem _ (hF.2.2.1 k9 hk).2.2.2))))))))) (by omega) (by omega) dX3_compose_97 ?_
        refine zti (y := (-1 : Int32)) hz ?_
        refine lv_iconst (v := (-1 : Int32)) hx hb dX3_compose_98 (by decide) ?_
        refine lv_icmp_ne (tgt := 106) hx hb dX3_compose_99 (by decide) (fun hc99 => ?_) (fun hc99 => ?_)
        · skip
          have hc99 : ¬ (-1 : Int32) = (-1 : Int32) := hc99
          exact absurd rfl hc99
        · skip
          have hc99 : (-1 : Int32) = (-1 : Int32) := hc99
          refine lv_iconst (v := (-1 : Int32)) hx hb dX3_compose_102 (by decide) ?_
          refine lv_goto (tgt := 122) hx hb dX3_compose_103 (by decide) ?_
          refine z_iast (k := k) (x := (-1 : Int32)) (n := ((psN sg.2.2.1 k9).2.1.length)) (f := g) hx hb hK hW hS 7 rfl (by omega) (by omega) dX3_compose_122 (fun H locs hW hS => ?_)
          have hW : Wd D S0 (((b 0), .inr (4, [.int (nI 0), .int (nI sg.1.length), .ref (b 1), .int (nI sg.2.1.length), .ref (b 2), .int (nI sg.2.2.1.length), .ref (b 3), .ref (b 4), .ref (b 5), .ref (mI w), .int (nI sg.2.2.2.2.length), .ref (b 6)])) :: ((b 1), fa cs 400 (mf w)) :: ((b 2), qa cs 2 12 (mg w 0)) :: ((b 3), qa cs 2 12 (mg w 1)) :: ((b 4), qa cs 2 12 (mg w 2)) :: ((b 5), qa cs 2 12 (mg w 3)) :: ((b 6), qa cs 2 20 (mg w 4)) :: (q73, fa cs ((psN sg.2.2.1 k9).2.1.length) (upd g k (-1 : Int32))) :: Z) H := hW
          refine lv_iinc (v := nI (k + 1)) (lv' := [(4, .int (nI (k + 1))), (0, .ref (b 0)), (1, .int (nI j9)), (2, .int (nI k9)), (3, .ref q73)]) hx hb dX3_compose_123 hl (k := 0) rfl (z_inc _) (by decide) rfl (fun ls hl => ?_)
          refine lv_goto (tgt := 79) hx hb dX3_compose_126 (by decide) ?_
          exact ih79 ((k + 1), (upd g k (-1 : Int32))) ls H locs (show (psN sg.2.2.1 k9).2.1.length - (k + 1) < dd79 by omega) ⟨lv_sub hl [0, 1, 2, 3, 4] rfl, hW, hS, (show (k + 1) ≤ (psN sg.2.2.1 k9).2.1.length from by omega), (show ∀ i, i < (k + 1) → (upd g k (-1 : Int32)) i = cmpO (rf (psN sg.2.2.1 j9).2.2) (rf (psN sg.2.2.1 k9).2.2) i from upd_ok hg (cmp_l hz))⟩
      · skip
        refine lv_aload_n hx hb dX3_compose_86 rfl (lv_at hl 4 rfl) ?_
        refine lv_iload hx hb dX3_compose_87 (lv_at hl 0 rfl) ?_
        refine lv_aload_n hx hb dX3_compose_89 rfl (lv_at hl 1 rfl) ?_
        refine z_get (ci := 4) (v := .ref (b 5)) (C := RX3) (T := TX3) (N := 12) hx hb hts in4 hown hK (hW.1 0 _ rfl) rfl 8 (by decide) fl24 (fun _ h9 => h9) rfl dX3_compose_90 ?_
        refine lv_iload_n hx hb dX3_compose_93 rfl (lv_at hl 3 rfl) ?_
        refine z_aald (k := k9) (y := (mA w 3 k9)) (t0 := 2) hx hb hK (hW.1 5 _ rfl) rfl rfl (by omega) (by omega) (hF.2.2.1 k9 hk).2.2.1 dX3_compose_94 ?_
        refine lv_iload hx hb dX3_compose_95 (lv_at hl 0 rfl) ?_
        refine z_iald (k := k) (f := (rf (psN sg.2.2.1 k9).2.2)) hx hb hK (hW.mem (List.mem_cons_of_mem _ (List.mem_cons_of_mem _ (List.mem_cons_of_mem _ (List.mem_cons_of_mem _ (List.mem_cons_of_mem _ (List.mem_cons_of_mem _ (List.mem_cons_of_mem _ (List.mem_cons_of_mem _ (hF.2.2.1 k9 hk).2.2.2))))))))) (by omega) (by omega) dX3_compose_97 ?_
        refine zti (y := nI jx) hz ?_
        refine lv_iconst (v := (-1 : Int32)) hx hb dX3_compose_98 (by decide) ?_
        refine lv_icmp_ne (tgt := 106) hx hb dX3_compose_99 (by decide) (fun hc99 => ?_) (fun hc99 => ?_)
        · skip
          have hc99 : ¬ (nI jx) = (-1 : Int32) := hc99
          refine lv_aload_n hx hb dX3_compose_106 rfl (lv_at hl 1 rfl) ?_
          refine z_get (ci := 4) (v := .ref (b 5)) (C := RX3) (T := TX3) (N := 12) hx hb hts in4 hown hK (hW.1 0 _ rfl) rfl 8 (by decide) fl24 (fun _ h9 => h9) rfl dX3_compose_107 ?_
          refine lv_iload_n hx hb dX3_compose_110 rfl (lv_at hl 2 rfl) ?_
          refine z_aald (k := j9) (y := (mA w 3 j9)) (t0 := 2) hx hb hK (hW.1 5 _ rfl) rfl rfl (by omega) (by omega) (hF.2.2.1 j9 hj).2.2.1 dX3_compose_111 ?_
          refine lv_aload_n hx hb dX3_compose_112 rfl (lv_at hl 1 rfl) ?_
          refine z_get (ci := 4) (v := .ref (b 5)) (C := RX3) (T := TX3) (N := 12) hx hb hts in4 hown hK (hW.1 0 _ rfl) rfl 8 (by decide) fl24 (fun _ h9 => h9) rfl dX3_compose_113 ?_
          refine lv_iload_n hx hb dX3_compose_116 rfl (lv_at hl 3 rfl) ?_
          refine z_aald (k := k9) (y := (mA w 3 k9)) (t0 := 2) hx hb hK (hW.1 5 _ rfl) rfl rfl (by omega) (by omega) (hF.2.2.1 k9 hk).2.2.1 dX3_compose_117 ?_
          refine lv_iload hx hb dX3_compose_118 (lv_at hl 0 rfl) ?_
          refine z_iald (k := k) (f := (rf (psN sg.2.2.1 k9).2.2)) hx hb hK (hW.mem (List.mem_cons_of_mem _ (List.mem_cons_of_mem _ (List.mem_cons_of_mem _ (List.mem_cons_of_mem _ (List.mem_cons_of_mem _ (List.mem_cons_of_mem _ (List.mem_cons_of_mem _ (List.mem_cons_of_mem _ (hF.2.2.1 k9 hk).2.2.2))))))))) (by omega) (by omega) dX3_compose_120 ?_
          refine zti (y := nI jx) hz ?_
          refine z_iald (k := jx) (f := (rf (psN sg.2.2.1 j9).2.2)) hx hb hK (hW.mem (List.mem_cons_of_mem _ (List.mem_cons_of_mem _ (List.mem_cons_of_mem _ (List.mem_cons_of_mem _ (List.mem_cons_of_mem _ (List.mem_cons_of_mem _ (List.mem_cons_of_mem _ (List.mem_cons_of_mem _ (hF.2.2.1 j9 hj).2.2.2))))))))) (by omega) (by omega) dX3_compose_121 ?_
          refine z_iast (k := k) (x := (rf (psN sg.2.2.1 j9).2.2) jx) (n := ((psN sg.2.2.1 k9).2.1.length)) (f := g) hx hb hK hW hS 7 rfl (by omega) (by omega) dX3_compose_122 (fun H locs hW hS => ?_)
          have hW : Wd D S0 (((b 0), .inr (4, [.int (nI 0), .int (nI sg.1.length), .ref (b 1), .int (nI sg.2.1.length), .ref (b 2), .int (nI sg.2.2.1.length), .ref (b 3), .ref (b 4), .ref (b 5), .ref (mI w), .int (nI sg.2.2.2.2.length), .ref (b 6)])) :: ((b 1), fa cs 400 (mf w)) :: ((b 2), qa cs 2 12 (mg w 0)) :: ((b 3), qa cs 2 12 (mg w 1)) :: ((b 4), qa cs 2 12 (mg w 2)) :: ((b 5), qa cs 2 12 (mg w 3)) :: ((b 6), qa cs 2 20 (mg w 4)) :: (q73, fa cs ((psN sg.2.2.1 k9).2.1.length) (upd g k ((rf (psN sg.2.2.1 j9).2.2) jx))) :: Z) H := hW
          refine lv_iinc (v := nI (k + 1)) (lv' := [(4, .int (nI (k + 1))), (0, .ref (b 0)), (1, .int (nI j9)), (2, .int (nI k9)), (3, .ref q73)]) hx hb dX3_compose_123 hl (k := 0) rfl (z_inc _) (by decide) rfl (fun ls hl => ?_)
          refine lv_goto (tgt := 79) hx hb dX3_compose_126 (by decide) ?_
          exact ih79 ((k + 1), (upd g k ((rf (psN sg.2.2.1 j9).2.2) jx))) ls H locs (show (psN sg.2.2.1 k9).2.1.length - (k + 1) < dd79 by omega) ⟨lv_sub hl [0, 1, 2, 3, 4] rfl, hW, hS, (show (k + 1) ≤ (psN sg.2.2.1 k9).2.1.length from by omega), (show ∀ i, i < (k + 1) → (upd g k ((rf (psN sg.2.2.1 j9).2.2) jx)) i = cmpO (rf (psN sg.2.2.1 j9).2.2) (rf (psN sg.2.2.1 k9).2.2) i from upd_ok hg (cmp_c hz (by omega)))⟩
        · skip
          have hc99 : (nI jx) = (-1 : Int32) := hc99
          exact absurd hc99 (z_nm1 (by omega))
  · skip
    have hc57 : sg.2.2.1.length = 12 := hc57
    omega
