/-! feed: the bytes of a long -/
theorem z_b255 (z : UInt64) : z.toInt64.toInt32 &&& nI 255 = nI (z.toNat % 256) := by
  have e1 : z.toInt64.toInt32.toBitVec = z.toBitVec.setWidth 32 := by
    simp
    exact BitVec.signExtend_eq_setWidth_of_le _ (by decide)
  refine Int32.toBitVec_inj.1 (BitVec.eq_of_toNat_eq ?_)
  rw [Int32.toBitVec_and, BitVec.toNat_and, e1, BitVec.toNat_setWidth]
  have e2 : (nI 255).toBitVec.toNat = 2 ^ 8 - 1 := by decide
  have e3 : (nI (z.toNat % 256)).toBitVec.toNat = z.toNat % 256 := by
    unfold nI
    rw [Int32.toBitVec_ofNat', BitVec.toNat_ofNat]
    exact Nat.mod_eq_of_lt (by have := Nat.mod_lt z.toNat (show 0 < 256 by decide); omega)
  rw [e2, e3, Nat.and_two_pow_sub_one_eq_mod, UInt64.toNat_toBitVec]
  omega
theorem z_c255 (z : UInt64) : (z.toInt64 &&& 255).toInt32 = nI (z.toNat % 256) := by
  have e1 : (z.toInt64 &&& 255).toInt32.toBitVec = (z.toBitVec &&& 255#64).setWidth 32 := by
    simp
    rw [BitVec.signExtend_eq_setWidth_of_le _ (by decide)]
  refine Int32.toBitVec_inj.1 (BitVec.eq_of_toNat_eq ?_)
  rw [e1, BitVec.toNat_setWidth, BitVec.toNat_and]
  have e2 : (255#64).toNat = 2 ^ 8 - 1 := by decide
  have e3 : (nI (z.toNat % 256)).toBitVec.toNat = z.toNat % 256 := by
    unfold nI
    rw [Int32.toBitVec_ofNat', BitVec.toNat_ofNat]
    exact Nat.mod_eq_of_lt (by have := Nat.mod_lt z.toNat (show 0 < 256 by decide); omega)
  rw [e2, e3, Nat.and_two_pow_sub_one_eq_mod, UInt64.toNat_toBitVec]
  omega

/-- byte i of w, from the lowest -/
def fdB (w : Int64) (i : Nat) : Nat := (w.toUInt64 >>> ((nI (8 * i)).toInt64.toUInt64 &&& Int64.toUInt64 63)).toNat % 256
def fdR (f : Nat → Int32) (nb : Nat) (w : Int64) (n : Nat) : Nat → (Nat → Int32)
  | 0 => f
  | k + 1 => upd (fdR f nb w n k) (nb + k) (nI (fdB w (n - 1 - k)))
theorem fdB_lt (w : Int64) (i : Nat) : fdB w i < 256 := Nat.mod_lt _ (by decide)
theorem fdR_lo {f : Nat → Int32} {nb n : Nat} {w : Int64} : ∀ (k : Nat) {i : Nat}, i < nb → fdR f nb w n k i = f i
  | 0, _, _ => rfl
  | k + 1, i, h => by
    show upd (fdR f nb w n k) (nb + k) _ i = f i
    rw [show upd (fdR f nb w n k) (nb + k) (nI (fdB w (n - 1 - k))) i = fdR f nb w n k i from if_neg (by omega)]
    exact fdR_lo k h
theorem fdR_hi {f : Nat → Int32} {nb n : Nat} {w : Int64} : ∀ (k : Nat) {j : Nat}, j < k → fdR f nb w n k (nb + j) = nI (fdB w (n - 1 - j))
  | 0, _, h => absurd h (Nat.not_lt_zero _)
  | k + 1, j, h => by
    show upd (fdR f nb w n k) (nb + k) (nI (fdB w (n - 1 - k))) (nb + j) = _
    by_cases e : j = k
    · rw [e]; exact if_pos rfl
    · rw [show upd (fdR f nb w n k) (nb + k) (nI (fdB w (n - 1 - k))) (nb + j) = fdR f nb w n k (nb + j) from if_neg (by omega)]
      exact fdR_hi k (by omega)

set_option maxHeartbeats 4000000 in
set_option maxRecDepth 100000 in
theorem c_X2_feed (l : Launch) (D : va_G) (cs : Nat → ClassId) (S0 : Nat) (ws : va_W) (x9 y1 y2 y3 y4 y5 y6 y7 nb n9 : Nat) (f : Nat → Int32) (w : Int64) (h1 : 1 ≤ n9) (h2 : n9 ≤ 8) (h3 : nb + n9 ≤ 400) : Met l yX2_feed wsX2_feed ({ frames := 0, cells := 0, slots := 0, locals := 0 }) (zP [.ref x9, .long w, .int (nI n9)] (fun H => Wd D S0 ((x9, .inr (3, [.ref y1, .int (nI nb), .ref y2, .ref y3, .ref y4, .ref y5, .ref y6, .ref y7])) :: (y1, fa cs 400 f) :: ws) H) D cs) (va_Qi (fun r (_ : Unit) => r = nI (nb + n9)) (fun _ t => Wd D S0 ((x9, .inr (3, [.ref y1, .int (nI (nb + n9)), .ref y2, .ref y3, .ref y4, .ref y5, .ref y6, .ref y7])) :: (y1, fa cs 400 (fdR f nb w n9 n9)) :: ws) t.heap) (SA S0)) 0 0 (SA S0) := by
  refine Met.ofW (cc := cX2_feed) (maxL := 5) (ret := (some .int)) (by decide) rfl ?_
  intro p e s m args below meth c s₁ B hml hv
  obtain ⟨rfl, hW, hK⟩ := hv
  have hx := B.exec
  have hb := B.bytes
  have hr := B.returns
  have hts := atoms_spec (ws := wsX2_feed) B.pre
  have hown : s.vm.findClass RX2 = some m.cls := findClass_of_methodNamed B.named
  have hlocks := B.notSynchronized
  have hRc : (headSpec wsX2_feed ({ frames := 0, cells := 0, slots := 0, locals := 0 })).room.cells = 0 := rfl
  have hRs : (headSpec wsX2_feed ({ frames := 0, cells := 0, slots := 0, locals := 0 })).room.slots = 0 := rfl
  have fl13 := hts (.fieldLink RX2 13 "DeltaUpdater" "buffered" "I") (by decide +kernel)
  have fl9 := hts (.fieldLink RX2 9 "DeltaUpdater" "buffer" "[I") (by decide +kernel)
  have in3 : ∀ w ∈ u_ws RX2 TX2 8, w ∈ wsX2_feed := by decide +kernel
  have hW : Wd D S0 ((x9, .inr (3, [.ref y1, .int (nI nb), .ref y2, .ref y3, .ref y4, .ref y5, .ref y6, .ref y7])) :: (y1, fa cs 400 f) :: ws) s.heap := hW
  have hS0 : S0 ≤ s.heap.size := hW.2.2
  have hS : va_S (SA S0) s.heap s.heap [] := va_S.rf
  have hl := lv_entry ([.ref x9, .long w, .int (nI n9)]) (n := 5) (Nat.le_of_ble_eq_true rfl)
  rw [lg_entry_eq]
  generalize (lg_sl ([.ref x9, .long w, .int (nI n9)]) ++ List.replicate (5 - (lg_sl ([.ref x9, .long w, .int (nI n9)])).length) Slot.unset).toArray = ls at hl ⊢
  have hl : lv_has ls 5 [(0, .ref x9), (1, .long w), (3, .int (nI n9))] := hl
  refine lv_iload_n hx hb dX2_feed_0 rfl (lv_at hl 2 rfl) ?_
  refine lv_iconst (v := nI 1) hx hb dX2_feed_1 (by decide) ?_
  refine z_icmp_lt (tgt := 11) hx hb (by omega) (by omega) dX2_feed_2 (by decide) (fun hc2 => ?_) (fun hc2 => ?_)
  · skip
    have hc2 : n9 < 1 := hc2
    omega
  · skip
    have hc2 : 1 ≤ n9 := hc2
    refine lv_iload_n hx hb dX2_feed_5 rfl (lv_at hl 2 rfl) ?_
    refine lv_bipush (v := nI 8) hx hb dX2_feed_6 (by decide) ?_
    refine z_icmp_le (tgt := 21) hx hb (by omega) (by omega) dX2_feed_8 (by decide) (fun hc8 => ?_) (fun hc8 => ?_)
    · skip
      have hc8 : n9 ≤ 8 := hc8
      refine lv_aload_n hx hb dX2_feed_21 rfl (lv_at hl 0 rfl) ?_
      refine z_get (ci := 3) (v := .int (nI nb)) (C := RX2) (T := TX2) (N := 8) hx hb hts in3 hown hK (hW.1 0 _ rfl) rfl 1 (by decide) fl13 (fun _ h9 => h9) rfl dX2_feed_22 ?_
      refine lv_iload_n hx hb dX2_feed_25 rfl (lv_at hl 2 rfl) ?_
      refine lv_iadd hx hb dX2_feed_26 ?_
      refine zti (nI_add _ _) (y := nI (nb + n9)) ?_
      refine lv_sipush (v := nI 400) hx hb dX2_feed_27 (by decide) ?_
      refine z_icmp_le (tgt := 43) hx hb (by omega) (by omega) dX2_feed_30 (by decide) (fun hc30 => ?_) (fun hc30 => ?_)
      · skip
        have hc30 : nb + n9 ≤ 400 := hc30
        refine lv_iconst (v := nI 0) hx hb dX2_feed_43 (by decide) ?_
        refine lv_istore (lv' := [(4, .int (nI 0)), (0, .ref x9), (1, .long w), (3, .int (nI n9))]) hx hb dX2_feed_44 hl (by decide) rfl (fun ls hl => ?_)
        refine z_loopM (σ := Nat) (fun q9 => n9 - q9) (fun q9 ls H locs => lv_has ls 5 [(4, .int (nI q9)), (0, .ref x9), (1, .long w), (3, .int (nI n9))] ∧ Wd D S0 ((x9, .inr (3, [.ref y1, .int (nI nb), .ref y2, .ref y3, .ref y4, .ref y5, .ref y6, .ref y7])) :: (y1, fa cs 400 (fdR f nb w n9 q9)) :: ws) H ∧ va_S (SA S0) s.heap H locs ∧ (q9 ≤ n9)) 0 ⟨lv_sub hl [0, 1, 2, 3] rfl, hW, hS, (show 0 ≤ n9 from by omega)⟩ (fun dd46 ih46 y9 ls H locs hd9 hI9 => ?_)
        obtain ⟨k, rfl⟩ : ∃ z, z = y9 := ⟨_, rfl⟩
        have hd46 : n9 - k = dd46 := hd9
        have hI9 : lv_has ls 5 [(4, .int (nI k)), (0, .ref x9), (1, .long w), (3, .int (nI n9))] ∧ Wd D S0 ((x9, .inr (3, [.ref y1, .int (nI nb), .ref y2, .ref y3, .ref y4, .ref y5, .ref y6, .ref y7])) :: (y1, fa cs 400 (fdR f nb w n9 k)) :: ws) H ∧ va_S (SA S0) s.heap H locs ∧ (k ≤ n9) := hI9
        obtain ⟨hl, hW, hS, hk⟩ := hI9
        refine lv_iload hx hb dX2_feed_46 (lv_at hl 0 rfl) ?_
        refine lv_iload_n hx hb dX2_feed_48 rfl (lv_at hl 3 rfl) ?_
        refine z_icmp_ge (tgt := 86) hx hb (by omega) (by omega) dX2_feed_49 (by decide) (fun hc49 => ?_) (fun hc49 => ?_)
        · skip
          have hc49 : n9 ≤ k := hc49
          have e9 : k = n9 := by omega
          rw [e9] at hl hW
          have hW : Wd D S0 ((x9, .inr (3, [.ref y1, .int (nI nb), .ref y2, .ref y3, .ref y4, .ref y5, .ref y6, .ref y7])) :: (y1, fa cs 400 (fdR f nb w n9 n9)) :: ws) H := hW
          refine lv_aload_n hx hb dX2_feed_86 rfl (lv_at hl 1 rfl) ?_
          refine lv_dup hx hb dX2_feed_87 rfl ?_
          refine z_get (ci := 3) (v := .int (nI nb)) (C := RX2) (T := TX2) (N := 8) hx hb hts in3 hown hK (hW.1 0 _ rfl) rfl 1 (by decide) fl13 (fun _ h9 => h9) rfl dX2_feed_88 ?_
          refine lv_iload_n hx hb dX2_feed_91 rfl (lv_at hl 3 rfl) ?_
          refine lv_iadd hx hb dX2_feed_92 ?_
          refine zti (nI_add _ _) (y := nI (nb + n9)) ?_
          refine z_put (ty := .int) (ci := 3) (v := .int (nI (nb + n9))) (C := RX2) (T := TX2) (N := 8) hx hb hts in3 tyX2 tyX2_ok nmX2 hown hK hW hS 0 rfl rfl 1 (by decide) fl13 (fun _ h9 => h9) rfl (by decide +kernel) rfl rfl (Nat.le_of_ble_eq_true rfl) dX2_feed_93 (fun H locs hW hS => ?_)
          have hW : Wd D S0 ((x9, .inr (3, [.ref y1, .int (nI (nb + n9)), .ref y2, .ref y3, .ref y4, .ref y5, .ref y6, .ref y7])) :: (y1, fa cs 400 (fdR f nb w n9 n9)) :: ws) H := hW
          refine lv_aload_n hx hb dX2_feed_96 rfl (lv_at hl 1 rfl) ?_
          refine z_get (ci := 3) (v := .int (nI (nb + n9))) (C := RX2) (T := TX2) (N := 8) hx hb hts in3 hown hK (hW.1 0 _ rfl) rfl 1 (by decide) fl13 (fun _ h9 => h9) rfl dX2_feed_97 ?_
          refine W.widen (k := 0) (n := 0) (by omega) (by omega) ?_
          exact W.iret (v := nI (nb + n9)) hx hb hr (fun t ht hW9 => ⟨⟨_, (), rfl, rfl, (by show Wd D S0 _ _; rw [ht]; exact hW)⟩, hS.F ht⟩) (fun q9 h9 => hS.2.2 q9 h9) dX2_feed_100
        · skip
          have hc49 : k < n9 := hc49
          refine lv_aload_n hx hb dX2_feed_52 rfl (lv_at hl 1 rfl) ?_
          refine z_get (ci := 3) (v := .ref y1) (C := RX2) (T := TX2) (N := 8) hx hb hts in3 hown hK (hW.1 0 _ rfl) rfl 0 (by decide) fl9 (fun _ h9 => h9) rfl dX2_feed_53 ?_
          refine lv_aload_n hx hb dX2_feed_56 rfl (lv_at hl 1 rfl) ?_
          refine z_get (ci := 3) (v := .int (nI nb)) (C := RX2) (T := TX2) (N := 8) hx hb hts in3 hown hK (hW.1 0 _ rfl) rfl 1 (by decide) fl13 (fun _ h9 => h9) rfl dX2_feed_57 ?_
          refine lv_iload hx hb dX2_feed_60 (lv_at hl 0 rfl) ?_
          refine lv_iadd hx hb dX2_feed_62 ?_
          refine zti (nI_add _ _) (y := nI (nb + k)) ?_
          refine lv_lload_n hx hb dX2_feed_63 rfl (lv_at hl 2 rfl) ?_
          refine lv_bipush (v := nI 8) hx hb dX2_feed_64 (by decide) ?_
          refine lv_iload_n hx hb dX2_feed_66 rfl (lv_at hl 3 rfl) ?_
          refine lv_iconst (v := nI 1) hx hb dX2_feed_67 (by decide) ?_
          refine lv_isub hx hb dX2_feed_68 ?_
          refine zti (pk_sub (by omega)) (y := nI (n9 - 1)) ?_
          refine lv_iload hx hb dX2_feed_69 (lv_at hl 0 rfl) ?_
          refine lv_isub hx hb dX2_feed_71 ?_
          refine zti (pk_sub (by omega)) (y := nI ((n9 - 1) - k)) ?_
          refine lv_imul hx hb dX2_feed_72 ?_
          refine zti (pk_mul _ _) (y := nI (8 * ((n9 - 1) - k))) ?_
          refine lv_lushr (v := (w.toUInt64 >>> ((nI (8 * ((n9 - 1) - k))).toInt64.toUInt64 &&& Int64.toUInt64 63)).toInt64) hx hb dX2_feed_73 rfl ?_
          refine lv_l2i (v := ((w.toUInt64 >>> ((nI (8 * ((n9 - 1) - k))).toInt64.toUInt64 &&& Int64.toUInt64 63)).toInt64).toInt32) hx hb dX2_feed_74 rfl ?_
          refine lv_sipush (v := nI 255) hx hb dX2_feed_75 (by decide) ?_
          refine lv_iand hx hb dX2_feed_78 ?_
          refine zti (z_b255 _) (y := nI (fdB w (n9 - 1 - k))) ?_
          refine z_iast (k := (nb + k)) (x := nI (fdB w (n9 - 1 - k))) (n := 400) (f := (fdR f nb w n9 k)) hx hb hK hW hS 1 rfl (by omega) (by omega) dX2_feed_79 (fun H locs hW hS => ?_)
          have hW : Wd D S0 ((x9, .inr (3, [.ref y1, .int (nI nb), .ref y2, .ref y3, .ref y4, .ref y5, .ref y6, .ref y7])) :: (y1, fa cs 400 (upd (fdR f nb w n9 k) (nb + k) (nI (fdB w (n9 - 1 - k))))) :: ws) H := hW
          refine lv_iinc (v := nI (k + 1)) (lv' := [(4, .int (nI (k + 1))), (0, .ref x9), (1, .long w), (3, .int (nI n9))]) hx hb dX2_feed_80 hl (k := 0) rfl (z_inc _) (by decide) rfl (fun ls hl => ?_)
          refine lv_goto (tgt := 46) hx hb dX2_feed_83 (by decide) ?_
          exact ih46 (k + 1) ls H locs (show n9 - (k + 1) < dd46 by omega) ⟨lv_sub hl [0, 1, 2, 3] rfl, hW, hS, (show (k + 1) ≤ n9 from by omega)⟩
      · skip
        have hc30 : 400 < nb + n9 := hc30
        omega
    · skip
      have hc8 : 8 < n9 := hc8
      omega

