/-! the law's store: a row fed in pieces, stored, read back -/
set_option maxHeartbeats 4000000 in
set_option maxRecDepth 100000 in
theorem c_L_store (l : Launch) (D : va_G) (cs : Nat → ClassId) (S0 : Nat) (ea mi : Nat) (sa : Nat → Nat) (Y : va_W) (a : Nat → Nat) (u : XU) (sg : St) (hF : XF cs ea u (stB0 sg []) Y) (r9 : Nat) (xs : BL) (hr9 : (r9, ba cs xs) ∈ Y) (hxs : rowOk xs) (h70 : xs.length ≤ 70) (hroom : sg.2.1.length < 12) : Met l yL_store wsL_store ({ frames := 8, cells := 3, slots := 801, locals := 191 }) (zE [.ref (a 0), .ref r9, .int (nI 7)] (fun H => Wd D S0 (XW cs a u (stB0 sg []) Y) H) D cs S0 ea mi sa) (va_Qi (fun r (v : XU × va_W) => r = nI sg.2.1.length ∧ XF cs ea v.1 (stB0 (stV sg xs) []) (v.2 ++ Y)) (fun v t => Wd D S0 (XW cs a v.1 (stB0 (stV sg xs) []) (v.2 ++ Y)) t.heap) (SA S0)) 3 801 (SA S0) := by
  refine Met.ofW (cc := cL_store) (maxL := 8) (ret := (some .int)) (by decide) rfl ?_
  intro p e s m args below meth c s₁ B hml hv
  obtain ⟨rfl, hW, hK, hE⟩ := hv
  have hx := B.exec
  have hb := B.bytes
  have hr := B.returns
  have hts := atoms_spec (ws := wsL_store) B.pre
  have hown : s.vm.findClass RL = some m.cls := findClass_of_methodNamed B.named
  have hlocks := B.notSynchronized
  have hRc : (headSpec wsL_store ({ frames := 8, cells := 3, slots := 801, locals := 191 })).room.cells = 3 := rfl
  have hRs : (headSpec wsL_store ({ frames := 8, cells := 3, slots := 801, locals := 191 })).room.slots = 801 := rfl
  have hW : Wd D S0 (XW cs a u (stB0 sg []) Y) s.heap := hW
  have hS0 : S0 ≤ s.heap.size := hW.2.2
  have hS : va_S (SA S0) s.heap s.heap [] := va_S.rf
  have hl := lv_entry ([.ref (a 0), .ref r9, .int (nI 7)]) (n := 8) (Nat.le_of_ble_eq_true rfl)
  rw [lg_entry_eq]
  generalize (lg_sl ([.ref (a 0), .ref r9, .int (nI 7)]) ++ List.replicate (8 - (lg_sl ([.ref (a 0), .ref r9, .int (nI 7)])).length) Slot.unset).toArray = ls at hl ⊢
  have hl : lv_has ls 8 [(0, .ref (a 0)), (1, .ref r9), (2, .int (nI 7))] := hl
  refine lv_iconst (v := nI 0) hx hb dL_store_0 (by decide) ?_
  refine lv_istore_n (lv' := [(3, .int (nI 0)), (0, .ref (a 0)), (1, .ref r9), (2, .int (nI 7))]) hx hb dL_store_1 rfl hl (by decide) rfl (fun ls hl => ?_)
  refine z_loopM (σ := Nat × XU × va_W) (fun q9 => xs.length - q9.1) (fun q9 ls H locs => lv_has ls 8 [(3, .int (nI q9.1)), (0, .ref (a 0)), (1, .ref r9), (2, .int (nI 7))] ∧ Wd D S0 (XW cs a q9.2.1 (stB0 sg (xs.take q9.1)) (q9.2.2 ++ Y)) H ∧ va_S (SA S0) s.heap H locs ∧ (q9.1 ≤ xs.length) ∧ (XF cs ea q9.2.1 (stB0 sg (xs.take q9.1)) (q9.2.2 ++ Y))) (0, u, []) ⟨lv_sub hl [0, 1, 2, 3] rfl, hW, hS, (show 0 ≤ xs.length from by omega), (show XF cs ea u (stB0 sg (xs.take 0)) ([] ++ Y) from hF)⟩ (fun dd2 ih2 y9 ls H locs hd9 hI9 => ?_)
  obtain ⟨at9, uu, GG⟩ := y9
  have hd2 : xs.length - at9 = dd2 := hd9
  have hI9 : lv_has ls 8 [(3, .int (nI at9)), (0, .ref (a 0)), (1, .ref r9), (2, .int (nI 7))] ∧ Wd D S0 (XW cs a uu (stB0 sg (xs.take at9)) (GG ++ Y)) H ∧ va_S (SA S0) s.heap H locs ∧ (at9 ≤ xs.length) ∧ (XF cs ea uu (stB0 sg (xs.take at9)) (GG ++ Y)) := hI9
  obtain ⟨hl, hW, hS, hat, hFF⟩ := hI9
  have hlen : (xs.take at9).length = at9 := by rw [List.length_take]; omega
  refine lv_iload_n hx hb dL_store_2 rfl (lv_at hl 0 rfl) ?_
  refine lv_aload_n hx hb dL_store_3 rfl (lv_at hl 2 rfl) ?_
  refine z_alen (n := xs.length) hx hb hK (hW.mem (XW_y _ (List.mem_append_right _ hr9))) dL_store_4 ?_
  refine z_icmp_ge (tgt := 76) hx hb (by omega) (by omega) dL_store_5 (by decide) (fun hc5 => ?_) (fun hc5 => ?_)
  · skip
    have hc5 : xs.length ≤ at9 := hc5
    have e8 : xs.take at9 = xs := List.take_of_length_le (by omega)
    rw [e8] at hW hFF
    refine lv_aload_n hx hb dL_store_76 rfl (lv_at hl 1 rfl) ?_
    refine z_cmI (va_runV (As := []) (rest := []) ⟨hx, hb, hml, hown, hts⟩ (c_X2_store l D cs S0 ea mi sa (GG ++ Y) a uu (stB0 sg xs) hFF hroom) (cwV 0 hts gL_store_X2_store rfl rfl rfl (by decide +kernel) ⟨Nat.le_of_ble_eq_true rfl, Nat.le_of_ble_eq_true rfl⟩) ⟨zE_blind, z_recv hK (hW.1 0 _ rfl) rfl, zE_pre hW hK hE hS⟩ rfl rfl hl.1 rfl (lv_room (Nat.le_of_ble_eq_true rfl)) dL_store_77 ⟨(by rw [hRc]; omega), (by rw [hRs]; omega)⟩) hS (fun r v H locs hu hW hS => ?_)
    obtain ⟨hu1, hu2⟩ := hu
    have hF9 : XF cs ea v.1 (stB0 (stV sg xs) []) ((v.2 ++ GG) ++ Y) := by rw [List.append_assoc]; exact hu2
    have hW : Wd D S0 (XW cs a v.1 (stB0 (stV sg xs) []) ((v.2 ++ GG) ++ Y)) H := by rw [List.append_assoc]; exact hW
    rw [hu1]
    refine zti (y := nI sg.2.1.length) rfl ?_
    have hXH := XH.of hW hF9
    have hlt : sg.2.1.length < (stB0 (stV sg xs) []).2.1.length := by show _ < (sg.2.1 ++ [xs]).length; rw [List.length_append]; exact Nat.lt_succ_self _
    have hvs : vsN (stB0 (stV sg xs) []).2.1 sg.2.1.length = xs := vsN_hi
    refine lv_istore (lv' := [(4, .int (nI sg.2.1.length)), (3, .int (nI at9)), (0, .ref (a 0)), (1, .ref r9), (2, .int (nI 7))]) hx hb dL_store_80 hl (by decide) rfl (fun ls hl => ?_)
    refine lv_aload_n hx hb dL_store_82 rfl (lv_at hl 2 rfl) ?_
    refine lv_iload hx hb dL_store_83 (lv_at hl 0 rfl) ?_
    refine z_ceV (As := [.int (nI sg.2.1.length)]) (rest := []) ⟨hx, hb, hml, hown, hts⟩ (c_X2_length l D cs S0 ea mi sa a v.1 (stB0 (stV sg xs) []) sg.2.1.length hlt) (cwV 1 hts gL_store_X2_length rfl rfl rfl (by decide +kernel) ⟨Nat.le_of_ble_eq_true rfl, Nat.le_of_ble_eq_true rfl⟩) hXH.1 rfl hXH hK hE hS rfl hl.1 rfl (Nat.le_of_ble_eq_true rfl) dL_store_85 ⟨(by rw [hRc]; omega), (by rw [hRs]; omega)⟩ (fun r hq9 => ?_)
    have hq9 : r = nI xs.length := by rw [hq9, hvs]
    rw [hq9]
    refine lv_aload_n hx hb dL_store_88 rfl (lv_at hl 3 rfl) ?_
    refine z_alen (n := xs.length) hx hb hK (hW.mem (XW_y _ (List.mem_append_right _ hr9))) dL_store_89 ?_
    refine z_icmp_eq (tgt := 95) hx hb (by omega) (by omega) dL_store_90 (by decide) (fun hc90 => ?_) (fun hc90 => ?_)
    · skip
      have hc90 : xs.length = xs.length := hc90
      refine lv_iconst (v := nI 0) hx hb dL_store_95 (by decide) ?_
      refine lv_istore (lv' := [(5, .int (nI 0)), (4, .int (nI sg.2.1.length)), (3, .int (nI at9)), (0, .ref (a 0)), (1, .ref r9), (2, .int (nI 7))]) hx hb dL_store_96 hl (by decide) rfl (fun ls hl => ?_)
      refine z_loop (σ := Nat) (fun q9 => xs.length - q9) (fun q9 ls => lv_has ls 8 [(5, .int (nI q9)), (4, .int (nI sg.2.1.length)), (0, .ref (a 0)), (1, .ref r9)] ∧ (q9 ≤ xs.length)) 0 ⟨lv_sub hl [0, 1, 3, 4] rfl, (show 0 ≤ xs.length from by omega)⟩ (fun dd98 ih98 y9 ls hd9 hI9 => ?_)
      obtain ⟨k2, rfl⟩ : ∃ z, z = y9 := ⟨_, rfl⟩
      have hd98 : xs.length - k2 = dd98 := hd9
      have hI9 : lv_has ls 8 [(5, .int (nI k2)), (4, .int (nI sg.2.1.length)), (0, .ref (a 0)), (1, .ref r9)] ∧ (k2 ≤ xs.length) := hI9
      obtain ⟨hl, hk2⟩ := hI9
      have hb8 := hxs.2 k2
      refine lv_iload hx hb dL_store_98 (lv_at hl 0 rfl) ?_
      refine lv_aload_n hx hb dL_store_100 rfl (lv_at hl 3 rfl) ?_
      refine z_alen (n := xs.length) hx hb hK (hW.mem (XW_y _ (List.mem_append_right _ hr9))) dL_store_101 ?_
      refine z_icmp_ge (tgt := 128) hx hb (by omega) (by omega) dL_store_102 (by decide) (fun hc102 => ?_) (fun hc102 => ?_)
      · skip
        have hc102 : xs.length ≤ k2 := hc102
        refine lv_iload hx hb dL_store_128 (lv_at hl 1 rfl) ?_
        refine W.widen (k := 3) (n := 801) (by omega) (by omega) ?_
        exact W.iret (v := nI sg.2.1.length) hx hb hr (fun t ht hW9 => ⟨⟨_, (v.1, v.2 ++ GG), rfl, ⟨rfl, hF9⟩, (by show Wd D S0 _ _; rw [ht]; exact hW)⟩, hS.F ht⟩) (fun q9 h9 => hS.2.2 q9 h9) dL_store_130
      · skip
        have hc102 : k2 < xs.length := hc102
        refine lv_aload_n hx hb dL_store_105 rfl (lv_at hl 2 rfl) ?_
        refine lv_iload hx hb dL_store_106 (lv_at hl 1 rfl) ?_
        refine lv_iload hx hb dL_store_108 (lv_at hl 0 rfl) ?_
        refine z_ceV (As := [.int (nI sg.2.1.length), .int (nI k2)]) (rest := []) ⟨hx, hb, hml, hown, hts⟩ (c_X2_byteAt l D cs S0 ea mi sa a v.1 (stB0 (stV sg xs) []) sg.2.1.length k2 hlt (by rw [hvs]; exact hc102)) (cwV 2 hts gL_store_X2_byteAt rfl rfl rfl (by decide +kernel) ⟨Nat.le_of_ble_eq_true rfl, Nat.le_of_ble_eq_true rfl⟩) hXH.1 rfl hXH hK hE hS rfl hl.1 rfl (Nat.le_of_ble_eq_true rfl) dL_store_110 ⟨(by rw [hRc]; omega), (by rw [hRs]; omega)⟩ (fun r hq9 => ?_)
        have hq9 : r = nI ((bv xs) k2) := by rw [hq9, hvs]
        rw [hq9]
        refine lv_aload_n hx hb dL_store_113 rfl (lv_at hl 3 rfl) ?_
        refine lv_iload hx hb dL_store_114 (lv_at hl 0 rfl) ?_
        refine z_iald (k := k2) (f := fun i => nI ((bv xs) i)) hx hb hK (hW.mem (XW_y _ (List.mem_append_right _ hr9))) (by omega) (by omega) dL_store_116 ?_
        refine zti (y := nI ((bv xs) k2)) rfl ?_
        refine z_icmp_eq (tgt := 122) hx hb (by omega) (by omega) dL_store_117 (by decide) (fun hc117 => ?_) (fun hc117 => ?_)
        · skip
          have hc117 : (bv xs) k2 = (bv xs) k2 := hc117
          refine lv_iinc (v := nI (k2 + 1)) (lv' := [(5, .int (nI (k2 + 1))), (4, .int (nI sg.2.1.length)), (0, .ref (a 0)), (1, .ref r9)]) hx hb dL_store_122 hl (k := 0) rfl (z_inc _) (by decide) rfl (fun ls hl => ?_)
          refine lv_goto (tgt := 98) hx hb dL_store_125 (by decide) ?_
          exact ih98 (k2 + 1) ls (show xs.length - (k2 + 1) < dd98 by omega) ⟨lv_sub hl [0, 1, 2, 3] rfl, (show (k2 + 1) ≤ xs.length from by omega)⟩
        · skip
          have hc117 : ¬ (bv xs) k2 = (bv xs) k2 := hc117
          exact absurd rfl hc117
    · skip
      have hc90 : ¬ xs.length = xs.length := hc90
      exact absurd rfl hc90
  · skip
    have hc5 : at9 < xs.length := hc5
    refine lv_iload_n hx hb dL_store_8 rfl (lv_at hl 3 rfl) ?_
    refine lv_aload_n hx hb dL_store_9 rfl (lv_at hl 2 rfl) ?_
    refine z_alen (n := xs.length) hx hb hK (hW.mem (XW_y _ (List.mem_append_right _ hr9))) dL_store_10 ?_
    refine lv_iload_n hx hb dL_store_11 rfl (lv_at hl 0 rfl) ?_
    refine lv_isub hx hb dL_store_12 ?_
    refine zti (pk_sub (by omega)) (y := nI (xs.length - at9)) ?_
    refine va_mmin (x := nI 7) (y := nI (xs.length - at9)) hx hb (hml.trans hl.1.symm) hown (hts (.methodLink RL 19 Lib.Math.min.name) (by decide +kernel)) (hts (.static Lib.Math.min.name) (by decide +kernel)) (hts (.initialized "java/lang/Math") (by decide +kernel)) (hts (.code Lib.Math.min.name Lib.Math.min.code 2 (some .int)) (by decide +kernel)) (Nat.le_of_ble_eq_true rfl) (Nat.le_of_ble_eq_true rfl) (by rw [hRc]; omega) (by rw [hRs]; omega) dL_store_13 ?_
    obtain ⟨n9, hn1, hn2, hn3, en9⟩ := mn7 (a := xs.length - at9) (by omega) (by omega)
    refine zti en9 ?_
    refine lv_istore (lv' := [(4, .int (nI n9)), (3, .int (nI at9)), (0, .ref (a 0)), (1, .ref r9), (2, .int (nI 7))]) hx hb dL_store_16 hl (by decide) rfl (fun ls hl => ?_)
    refine lv_ldc2 (v := (-1)) hx hb hown (hts (.constantLong RL 24 (-1)) (by decide +kernel)) dL_store_18 ?_
    refine ztl (y := lN (nmB (bv xs) at9 0)) (nm_0 _ _) ?_
    refine lv_lstore (lv' := [(5, .long (lN (nmB (bv xs) at9 0))), (4, .int (nI n9)), (3, .int (nI at9)), (0, .ref (a 0)), (1, .ref r9), (2, .int (nI 7))]) hx hb dL_store_21 hl (by decide) rfl (fun ls hl => ?_)
    refine lv_iconst (v := nI 0) hx hb dL_store_23 (by decide) ?_
    refine lv_istore (lv' := [(7, .int (nI 0)), (5, .long (lN (nmB (bv xs) at9 0))), (4, .int (nI n9)), (3, .int (nI at9)), (0, .ref (a 0)), (1, .ref r9), (2, .int (nI 7))]) hx hb dL_store_24 hl (by decide) rfl (fun ls hl => ?_)
    refine z_loop (σ := Nat) (fun q9 => n9 - q9) (fun q9 ls => lv_has ls 8 [(7, .int (nI q9)), (5, .long (lN (nmB (bv xs) at9 q9))), (4, .int (nI n9)), (3, .int (nI at9)), (0, .ref (a 0)), (1, .ref r9), (2, .int (nI 7))] ∧ (q9 ≤ n9)) 0 ⟨lv_sub hl [0, 1, 2, 3, 4, 5, 6] rfl, (show 0 ≤ n9 from by omega)⟩ (fun dd26 ih26 y9 ls hd9 hI9 => ?_)
    obtain ⟨kk, rfl⟩ : ∃ z, z = y9 := ⟨_, rfl⟩
    have hd26 : n9 - kk = dd26 := hd9
    have hI9 : lv_has ls 8 [(7, .int (nI kk)), (5, .long (lN (nmB (bv xs) at9 kk))), (4, .int (nI n9)), (3, .int (nI at9)), (0, .ref (a 0)), (1, .ref r9), (2, .int (nI 7))] ∧ (kk ≤ n9) := hI9
    obtain ⟨hl, hkk⟩ := hI9
    have hb8 := hxs.2 (at9 + kk)
    refine lv_iload hx hb dL_store_26 (lv_at hl 0 rfl) ?_
    refine lv_iload hx hb dL_store_28 (lv_at hl 2 rfl) ?_
    refine z_icmp_ge (tgt := 54) hx hb (by omega) (by omega) dL_store_30 (by decide) (fun hc30 => ?_) (fun hc30 => ?_)
    · skip
      have hc30 : n9 ≤ kk := hc30
      have ek9 : kk = n9 := by omega
      rw [ek9] at hl
      refine lv_iload_n hx hb dL_store_54 rfl (lv_at hl 3 rfl) ?_
      refine lv_iload hx hb dL_store_55 (lv_at hl 2 rfl) ?_
      refine lv_iadd hx hb dL_store_57 ?_
      refine zti (nI_add _ _) (y := nI (at9 + n9)) ?_
      refine lv_istore_n (lv' := [(3, .int (nI (at9 + n9))), (7, .int (nI n9)), (5, .long (lN (nmB (bv xs) at9 n9))), (4, .int (nI n9)), (0, .ref (a 0)), (1, .ref r9), (2, .int (nI 7))]) hx hb dL_store_58 rfl hl (by decide) rfl (fun ls hl => ?_)
      refine lv_aload_n hx hb dL_store_59 rfl (lv_at hl 4 rfl) ?_
      refine lv_lload hx hb dL_store_60 (lv_at hl 2 rfl) ?_
      refine lv_iload hx hb dL_store_62 (lv_at hl 3 rfl) ?_
      refine z_cmI (va_runV (As := [.long (lN (nmB (bv xs) at9 n9)), .int (nI n9)]) (rest := []) ⟨hx, hb, hml, hown, hts⟩ (c_X2_feedW l D cs S0 ea (GG ++ Y) a uu (stB0 sg (xs.take at9)) hFF n9 (lN (nmB (bv xs) at9 n9)) hn1 (by omega) (by show (xs.take at9).length + n9 ≤ 400; rw [hlen]; omega)) (cwV 2 hts gL_store_X2_feed rfl rfl rfl (by decide +kernel) ⟨Nat.le_of_ble_eq_true rfl, Nat.le_of_ble_eq_true rfl⟩) ⟨zP_blind, z_recv hK (hW.1 0 _ rfl) rfl, zP_pre hW hK⟩ rfl rfl hl.1 rfl (lv_room (Nat.le_of_ble_eq_true rfl)) dL_store_64 ⟨(by rw [hRc]; omega), (by rw [hRs]; omega)⟩) hS (fun r v H locs hu hW hS => ?_)
      obtain ⟨hu1, hu2⟩ := hu
      have e9 : xs.take at9 ++ fdL (lN (nmB (bv xs) at9 n9)) n9 = xs.take (at9 + n9) := fd_take hxs (by omega) (by omega)
      have hF9 : XF cs ea v.1 (stB0 sg (xs.take (at9 + n9))) ((v.2 ++ GG) ++ Y) := by rw [← e9, List.append_assoc]; exact hu2
      have hW : Wd D S0 (XW cs a v.1 (stB0 sg (xs.take (at9 + n9))) ((v.2 ++ GG) ++ Y)) H := by rw [← e9, List.append_assoc]; exact hW
      rw [hu1]
      refine zti (y := nI (at9 + n9)) (by show nI ((xs.take at9).length + n9) = _; rw [hlen]) ?_
      refine lv_iload_n hx hb dL_store_67 rfl (lv_at hl 0 rfl) ?_
      refine z_icmp_eq (tgt := 73) hx hb (by omega) (by omega) dL_store_68 (by decide) (fun hc68 => ?_) (fun hc68 => ?_)
      · skip
        have hc68 : at9 + n9 = at9 + n9 := hc68
        refine lv_goto (tgt := 2) hx hb dL_store_73 (by decide) ?_
        exact ih2 ((at9 + n9), v.1, (v.2 ++ GG)) ls H locs (show xs.length - (at9 + n9) < dd2 by omega) ⟨lv_sub hl [0, 4, 5, 6] rfl, hW, hS, (show (at9 + n9) ≤ xs.length from by omega), (show XF cs ea v.1 (stB0 sg (xs.take (at9 + n9))) ((v.2 ++ GG) ++ Y) from hF9)⟩
      · skip
        have hc68 : ¬ at9 + n9 = at9 + n9 := hc68
        exact absurd rfl hc68
    · skip
      have hc30 : kk < n9 := hc30
      refine lv_lload hx hb dL_store_33 (lv_at hl 1 rfl) ?_
      refine lv_bipush (v := nI 8) hx hb dL_store_35 (by decide) ?_
      refine lv_lshl (v := lN (nmB (bv xs) at9 kk * 2 ^ 8)) hx hb dL_store_37 (wb_shl _ (by decide)) ?_
      refine lv_aload_n hx hb dL_store_38 rfl (lv_at hl 5 rfl) ?_
      refine lv_iload_n hx hb dL_store_39 rfl (lv_at hl 3 rfl) ?_
      refine lv_iload hx hb dL_store_40 (lv_at hl 0 rfl) ?_
      refine lv_iadd hx hb dL_store_42 ?_
      refine zti (nI_add _ _) (y := nI (at9 + kk)) ?_
      refine z_iald (k := (at9 + kk)) (f := fun i => nI ((bv xs) i)) hx hb hK (hW.mem (XW_y _ (List.mem_append_right _ hr9))) (by omega) (by omega) dL_store_43 ?_
      refine zti (y := nI ((bv xs) (at9 + kk))) rfl ?_
      refine lv_i2l (v := lN ((bv xs) (at9 + kk))) hx hb dL_store_44 (nI_l (by omega)) ?_
      refine lv_lor hx hb dL_store_45 ?_
      refine ztl (y := lN (nmB (bv xs) at9 (kk + 1))) (nm_or hb8) ?_
      refine lv_lstore (lv' := [(5, .long (lN (nmB (bv xs) at9 (kk + 1)))), (7, .int (nI kk)), (4, .int (nI n9)), (3, .int (nI at9)), (0, .ref (a 0)), (1, .ref r9), (2, .int (nI 7))]) hx hb dL_store_46 hl (by decide) rfl (fun ls hl => ?_)
      refine lv_iinc (v := nI (kk + 1)) (lv' := [(7, .int (nI (kk + 1))), (5, .long (lN (nmB (bv xs) at9 (kk + 1)))), (4, .int (nI n9)), (3, .int (nI at9)), (0, .ref (a 0)), (1, .ref r9), (2, .int (nI 7))]) hx hb dL_store_48 hl (k := 1) rfl (z_inc _) (by decide) rfl (fun ls hl => ?_)
      refine lv_goto (tgt := 26) hx hb dL_store_51 (by decide) ?_
      exact ih26 (kk + 1) ls (show n9 - (kk + 1) < dd26 by omega) ⟨lv_sub hl [0, 1, 2, 3, 4, 5, 6] rfl, (show (kk + 1) ≤ n9 from by omega)⟩
