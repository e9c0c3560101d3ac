/-! the law's helpers -/
set_option maxHeartbeats 4000000 in
set_option maxRecDepth 100000 in
theorem h_feed_ok (l : Launch) (D : va_G) (cs : Nat → ClassId) (S0 ea mi : Nat) (sa : Nat → Nat) (Y : va_W) (a : Nat → Nat) (u : XU) (sg : St) (hF : XF cs ea u sg Y) (ol : Nat) (f : Nat → Int64) (p0 : Int64) (p1 : Int32) (R9 : Int32) (τ : St) (hM : xOK l D cs S0 ea mi sa ((ol, la cs f) :: Y) a u sg yX2_feed wsX2_feed [.ref (a 0), .long p0, .int p1] R9 τ) : hOK l D cs S0 ea mi sa Y a u sg ol f yL_feed wsL_feed [.ref (a 0), .long p0, .int p1, .ref ol] 0 R9.toInt64 τ := by
  refine z_ofWH (cc := cL_feed) (maxL := 6) (ret := (some .int)) (hh := [(0, 11, 14, 13), (0, 11, 18, 15)]) (by decide) rfl ?_
  intro p e s m args below meth c s₁ B hml hv
  obtain ⟨⟨rfl, hW, hK, hE⟩, hN⟩ := hv
  have hx := B.exec
  have hb := B.bytes
  have hr := B.returns
  have hts := atoms_spec (ws := wsL_feed) B.pre
  have hown : s.vm.findClass RL = some m.cls := findClass_of_methodNamed B.named
  have hlocks := B.notSynchronized
  have hRc : (headSpec wsL_feed RmH).room.cells = 5 := rfl
  have hRs : (headSpec wsL_feed RmH).room.slots = 1607 := rfl
  have hW : Wd D S0 ((ol, la cs f) :: XW cs a u sg Y) s.heap := hW
  have hS : va_S (SA S0) s.heap s.heap [] := va_S.rf
  have hl := lv_entry ([.ref (a 0), .long p0, .int p1, .ref ol]) (n := 6) (Nat.le_of_ble_eq_true rfl)
  rw [lg_entry_eq]
  generalize (lg_sl ([.ref (a 0), .long p0, .int p1, .ref ol]) ++ List.replicate (6 - (lg_sl ([.ref (a 0), .long p0, .int p1, .ref ol])).length) Slot.unset).toArray = ls at hl ⊢
  have hl : lv_has ls 6 [(0, .ref (a 0)), (1, .long p0), (3, .int p1), (4, .ref ol)] := hl
  refine lv_aload hx hb dL_feed_0 (lv_at hl 3 rfl) ?_
  refine lv_iconst (v := nI 0) hx hb dL_feed_2 (by decide) ?_
  refine lv_aload_n hx hb dL_feed_3 rfl (lv_at hl 0 rfl) ?_
  refine lv_lload_n hx hb dL_feed_4 rfl (lv_at hl 1 rfl) ?_
  refine lv_iload_n hx hb dL_feed_5 rfl (lv_at hl 2 rfl) ?_
  have hW2 : Wd D S0 (XW cs a u sg ((ol, la cs f) :: Y)) s.heap := XW.push hW
  have hF2 : XF cs ea u sg ((ol, la cs f) :: Y) := hF.more (fun q9 h9 => List.mem_cons_of_mem _ h9)
  refine z_cmI (va_runV (As := [.long p0, .int p1]) (rest := [.int (nI 0), .ref ol]) ⟨hx, hb, hml, hown, hts⟩ hM (cwV 2 hts gL_feed_X2_feed rfl rfl rfl (by decide +kernel) ⟨Nat.le_of_ble_eq_true rfl, Nat.le_of_ble_eq_true rfl⟩) ⟨zE_blind, z_recv hK (hW2.1 0 _ rfl) rfl, zE_pre hW2 hK hE hS⟩ rfl rfl hl.1 rfl (lv_room (Nat.le_of_ble_eq_true rfl)) dL_feed_6 ⟨Nat.le_of_ble_eq_true rfl, Nat.le_of_ble_eq_true rfl⟩) hS (fun r v H locs hu hW hS => ?_)
  obtain ⟨hu1, hu2⟩ := hu
  rw [hu1]
  have hW := XW.pull hW
  have hF3 : XF cs ea v.1 τ (v.2 ++ Y) := hu2.sel (sel_drop (A := [(ol, la cs f)]) (fun q9 h9 => by rw [List.mem_singleton.mp h9]; exact okE_la))
  have hW : Wd D S0 ((ol, la cs f) :: XW cs a v.1 τ (v.2 ++ Y)) H := hW
  refine lv_i2l (v := R9.toInt64) hx hb dL_feed_9 rfl ?_
  refine z_last hx hb hK hW hS dL_feed_10 (fun H locs g9 hg9 hW hS => ?_)
  have hW : Wd D S0 ((ol, la cs g9) :: XW cs a v.1 τ (v.2 ++ Y)) H := hW
  refine lv_goto (tgt := 22) hx hb dL_feed_11 (by decide) ?_
  refine lv_iconst (v := nI 0) hx hb dL_feed_22 (by decide) ?_
  refine W.widen (k := 5) (n := 1607) (by omega) (by omega) ?_
  exact W.iret (v := nI 0) hx hb hr (fun t ht hW9 => ⟨⟨_, (v.1, v.2, g9), rfl, ⟨rfl, fun _ => hg9, hF3⟩, (by show Wd D S0 _ _; rw [ht]; exact hW)⟩, hS.F ht⟩) (fun q9 h9 => hS.2.2 q9 h9) dL_feed_23

set_option maxHeartbeats 4000000 in
set_option maxRecDepth 100000 in
theorem h_feed_IA (l : Launch) (D : va_G) (cs : Nat → ClassId) (S0 ea mi : Nat) (sa : Nat → Nat) (Y : va_W) (a : Nat → Nat) (u : XU) (sg : St) (hF : XF cs ea u sg Y) (ol : Nat) (f : Nat → Int64) (p0 : Int64) (p1 : Int32) (R9 : Int64) (hM : vT l yX2_feed wsX2_feed RmT (zE [.ref (a 0), .long p0, .int p1] (fun H => XH D cs a u sg H) D cs S0 ea mi sa) eIA) : hOK l D cs S0 ea mi sa Y a u sg ol f yL_feed wsL_feed [.ref (a 0), .long p0, .int p1, .ref ol] 1 R9 sg := by
  refine z_ofWH (cc := cL_feed) (maxL := 6) (ret := (some .int)) (hh := [(0, 11, 14, 13), (0, 11, 18, 15)]) (by decide) rfl ?_
  intro p e s m args below meth c s₁ B hml hv
  obtain ⟨⟨rfl, hW, hK, hE⟩, hN⟩ := hv
  have hx := B.exec
  have hb := B.bytes
  have hr := B.returns
  have hts := atoms_spec (ws := wsL_feed) B.pre
  have hown : s.vm.findClass RL = some m.cls := findClass_of_methodNamed B.named
  have hlocks := B.notSynchronized
  have htab : c.exceptionTable.toList = tableOf [(0, 11, 14, 13), (0, 11, 18, 15)] := vx_table (x := yL_feed) B (hts _ List.mem_cons_self)
  have hRc : (headSpec wsL_feed RmH).room.cells = 5 := rfl
  have hRs : (headSpec wsL_feed RmH).room.slots = 1607 := rfl
  have hW : Wd D S0 ((ol, la cs f) :: XW cs a u sg Y) s.heap := hW
  have hS : va_S (SA S0) s.heap s.heap [] := va_S.rf
  have hl := lv_entry ([.ref (a 0), .long p0, .int p1, .ref ol]) (n := 6) (Nat.le_of_ble_eq_true rfl)
  rw [lg_entry_eq]
  generalize (lg_sl ([.ref (a 0), .long p0, .int p1, .ref ol]) ++ List.replicate (6 - (lg_sl ([.ref (a 0), .long p0, .int p1, .ref ol])).length) Slot.unset).toArray = ls at hl ⊢
  have hl : lv_has ls 6 [(0, .ref (a 0)), (1, .long p0), (3, .int p1), (4, .ref ol)] := hl
  refine lv_aload hx hb dL_feed_0 (lv_at hl 3 rfl) ?_
  refine lv_iconst (v := nI 0) hx hb dL_feed_2 (by decide) ?_
  refine lv_aload_n hx hb dL_feed_3 rfl (lv_at hl 0 rfl) ?_
  refine lv_lload_n hx hb dL_feed_4 rfl (lv_at hl 1 rfl) ?_
  refine lv_iload_n hx hb dL_feed_5 rfl (lv_at hl 2 rfl) ?_
  have hW2 : Wd D S0 (XW cs a u sg ((ol, la cs f) :: Y)) s.heap := XW.push hW
  have hF2 : XF cs ea u sg ((ol, la cs f) :: Y) := hF.more (fun q9 h9 => List.mem_cons_of_mem _ h9)
  have hPH2 := XH.of (D := D) hW2 hF2
  refine z_cat (vx_runV (As := [.long p0, .int p1]) (rest := [.int (nI 0), .ref ol]) ⟨hx, hb, hml, hown, hts⟩ hM (cwV 2 hts gL_feed_X2_feed rfl rfl rfl (by decide +kernel) ⟨Nat.le_of_ble_eq_true rfl, Nat.le_of_ble_eq_true rfl⟩) ⟨zE_blind, z_recv hK (hW2.1 0 _ rfl) rfl, zE_pre hPH2 hK hE va_S.rf⟩ rfl rfl hl.1 rfl (lv_room (Nat.le_of_ble_eq_true rfl)) dL_feed_6 ⟨Nat.le_of_ble_eq_true rfl, Nat.le_of_ble_eq_true rfl⟩) (fun H q8 ce hz9 hk9 hq1 hq2 hq3 => ?_)
  have hW : Wd D S0 ((ol, la cs f) :: XW cs a u sg Y) H := hW.kept hz9 hk9
  have hS : va_S (SA S0) s.heap H [] := ⟨hz9, fun q9 h9 _ => hk9 q9 h9, fun q9 h9 => absurd h9 List.not_mem_nil⟩
  refine vx_catch (name := eIA) hown [] ⟨0, 11, 14, 13⟩ [⟨0, 11, 18, 15⟩] htab (fun z9 h9 => absurd h9 List.not_mem_nil) (by decide) (by decide) (hts (.classLink RL 13 eIA) (by decide +kernel)) (va_Nw.use rfl (hE.2.2.2.2.1 (eIA, eIA) (by decide))) hq1 hq2 hq3 ?_
  refine lv_astore (lv' := [(5, .ref q8), (0, .ref (a 0)), (1, .long p0), (3, .int p1), (4, .ref ol)]) hx hb dL_feed_14 hl (by decide) rfl (fun ls hl => ?_)
  refine lv_iconst (v := nI 1) hx hb dL_feed_16 (by decide) ?_
  refine W.widen (k := 5) (n := 1607) (by omega) (by omega) ?_
  exact W.iret (v := nI 1) hx hb hr (fun t ht hW9 => ⟨⟨_, (u, [], f), rfl, ⟨rfl, fun h9 => absurd h9 (by decide), hF⟩, (by show Wd D S0 _ _; rw [ht]; exact hW)⟩, hS.F ht⟩) (fun q9 h9 => hS.2.2 q9 h9) dL_feed_17

set_option maxHeartbeats 4000000 in
set_option maxRecDepth 100000 in
theorem h_feed_IS (l : Launch) (D : va_G) (cs : Nat → ClassId) (S0 ea mi : Nat) (sa : Nat → Nat) (Y : va_W) (a : Nat → Nat) (u : XU) (sg : St) (hF : XF cs ea u sg Y) (ol : Nat) (f : Nat → Int64) (p0 : Int64) (p1 : Int32) (R9 : Int64) (hM : vT l yX2_feed wsX2_feed RmT (zE [.ref (a 0), .long p0, .int p1] (fun H => XH D cs a u sg H) D cs S0 ea mi sa) eIS) : hOK l D cs S0 ea mi sa Y a u sg ol f yL_feed wsL_feed [.ref (a 0), .long p0, .int p1, .ref ol] 2 R9 sg := by
  refine z_ofWH (cc := cL_feed) (maxL := 6) (ret := (some .int)) (hh := [(0, 11, 14, 13), (0, 11, 18, 15)]) (by decide) rfl ?_
  intro p e s m args below meth c s₁ B hml hv
  obtain ⟨⟨rfl, hW, hK, hE⟩, hN⟩ := hv
  have hx := B.exec
  have hb := B.bytes
  have hr := B.returns
  have hts := atoms_spec (ws := wsL_feed) B.pre
  have hown : s.vm.findClass RL = some m.cls := findClass_of_methodNamed B.named
  have hlocks := B.notSynchronized
  have htab : c.exceptionTable.toList = tableOf [(0, 11, 14, 13), (0, 11, 18, 15)] := vx_table (x := yL_feed) B (hts _ List.mem_cons_self)
  have hRc : (headSpec wsL_feed RmH).room.cells = 5 := rfl
  have hRs : (headSpec wsL_feed RmH).room.slots = 1607 := rfl
  have hW : Wd D S0 ((ol, la cs f) :: XW cs a u sg Y) s.heap := hW
  have hS : va_S (SA S0) s.heap s.heap [] := va_S.rf
  have hl := lv_entry ([.ref (a 0), .long p0, .int p1, .ref ol]) (n := 6) (Nat.le_of_ble_eq_true rfl)
  rw [lg_entry_eq]
  generalize (lg_sl ([.ref (a 0), .long p0, .int p1, .ref ol]) ++ List.replicate (6 - (lg_sl ([.ref (a 0), .long p0, .int p1, .ref ol])).length) Slot.unset).toArray = ls at hl ⊢
  have hl : lv_has ls 6 [(0, .ref (a 0)), (1, .long p0), (3, .int p1), (4, .ref ol)] := hl
  refine lv_aload hx hb dL_feed_0 (lv_at hl 3 rfl) ?_
  refine lv_iconst (v := nI 0) hx hb dL_feed_2 (by decide) ?_
  refine lv_aload_n hx hb dL_feed_3 rfl (lv_at hl 0 rfl) ?_
  refine lv_lload_n hx hb dL_feed_4 rfl (lv_at hl 1 rfl) ?_
  refine lv_iload_n hx hb dL_feed_5 rfl (lv_at hl 2 rfl) ?_
  have hW2 : Wd D S0 (XW cs a u sg ((ol, la cs f) :: Y)) s.heap := XW.push hW
  have hF2 : XF cs ea u sg ((ol, la cs f) :: Y) := hF.more (fun q9 h9 => List.mem_cons_of_mem _ h9)
  have hPH2 := XH.of (D := D) hW2 hF2
  refine z_cat (vx_runV (As := [.long p0, .int p1]) (rest := [.int (nI 0), .ref ol]) ⟨hx, hb, hml, hown, hts⟩ hM (cwV 2 hts gL_feed_X2_feed rfl rfl rfl (by decide +kernel) ⟨Nat.le_of_ble_eq_true rfl, Nat.le_of_ble_eq_true rfl⟩) ⟨zE_blind, z_recv hK (hW2.1 0 _ rfl) rfl, zE_pre hPH2 hK hE va_S.rf⟩ rfl rfl hl.1 rfl (lv_room (Nat.le_of_ble_eq_true rfl)) dL_feed_6 ⟨Nat.le_of_ble_eq_true rfl, Nat.le_of_ble_eq_true rfl⟩) (fun H q8 ce hz9 hk9 hq1 hq2 hq3 => ?_)
  have hW : Wd D S0 ((ol, la cs f) :: XW cs a u sg Y) H := hW.kept hz9 hk9
  have hS : va_S (SA S0) s.heap H [] := ⟨hz9, fun q9 h9 _ => hk9 q9 h9, fun q9 h9 => absurd h9 List.not_mem_nil⟩
  refine vx_catch (name := eIS) hown [⟨0, 11, 14, 13⟩] ⟨0, 11, 18, 15⟩ [] htab (fun z9 h9 => by
      rw [List.mem_singleton.mp h9]
      exact Or.inr ⟨by decide, eIA, hts (.classLink RL 13 eIA) (by decide +kernel), hN.2.2⟩) (by decide) (by decide) (hts (.classLink RL 15 eIS) (by decide +kernel)) (va_Nw.use rfl (hE.2.2.2.2.1 (eIS, eIS) (by decide))) hq1 hq2 hq3 ?_
  refine lv_astore (lv' := [(5, .ref q8), (0, .ref (a 0)), (1, .long p0), (3, .int p1), (4, .ref ol)]) hx hb dL_feed_18 hl (by decide) rfl (fun ls hl => ?_)
  refine lv_iconst (v := nI 2) hx hb dL_feed_20 (by decide) ?_
  refine W.widen (k := 5) (n := 1607) (by omega) (by omega) ?_
  exact W.iret (v := nI 2) hx hb hr (fun t ht hW9 => ⟨⟨_, (u, [], f), rfl, ⟨rfl, fun h9 => absurd h9 (by decide), hF⟩, (by show Wd D S0 _ _; rw [ht]; exact hW)⟩, hS.F ht⟩) (fun q9 h9 => hS.2.2 q9 h9) dL_feed_21

set_option maxHeartbeats 4000000 in
set_option maxRecDepth 100000 in
theorem h_store_ok (l : Launch) (D : va_G) (cs : Nat → ClassId) (S0 ea mi : Nat) (sa : Nat → Nat) (Y : va_W) (a : Nat → Nat) (u : XU) (sg : St) (hF : XF cs ea u sg Y) (ol : Nat) (f : Nat → Int64)  (R9 : Int32) (τ : St) (hM : xOK l D cs S0 ea mi sa ((ol, la cs f) :: Y) a u sg yX2_store wsX2_store [.ref (a 0)] R9 τ) : hOK l D cs S0 ea mi sa Y a u sg ol f yL_store wsL_store [.ref (a 0), .ref ol] 0 R9.toInt64 τ := by
  refine z_ofWH (cc := cL_store) (maxL := 3) (ret := (some .int)) (hh := [(0, 8, 11, 15)]) (by decide) rfl ?_
  intro p e s m args below meth c s₁ B hml hv
  obtain ⟨⟨rfl, hW, hK, hE⟩, hN⟩ := hv
  have hx := B.exec
  have hb := B.bytes
  have hr := B.returns
  have hts := atoms_spec (ws := wsL_store) B.pre
  have hown : s.vm.findClass RL = some m.cls := findClass_of_methodNamed B.named
  have hlocks := B.notSynchronized
  have hRc : (headSpec wsL_store RmH).room.cells = 5 := rfl
  have hRs : (headSpec wsL_store RmH).room.slots = 1607 := rfl
  have hW : Wd D S0 ((ol, la cs f) :: XW cs a u sg Y) s.heap := hW
  have hS : va_S (SA S0) s.heap s.heap [] := va_S.rf
  have hl := lv_entry ([.ref (a 0), .ref ol]) (n := 3) (Nat.le_of_ble_eq_true rfl)
  rw [lg_entry_eq]
  generalize (lg_sl ([.ref (a 0), .ref ol]) ++ List.replicate (3 - (lg_sl ([.ref (a 0), .ref ol])).length) Slot.unset).toArray = ls at hl ⊢
  have hl : lv_has ls 3 [(0, .ref (a 0)), (1, .ref ol)] := hl
  refine lv_aload_n hx hb dL_store_0 rfl (lv_at hl 1 rfl) ?_
  refine lv_iconst (v := nI 0) hx hb dL_store_1 (by decide) ?_
  refine lv_aload_n hx hb dL_store_2 rfl (lv_at hl 0 rfl) ?_
  have hW2 : Wd D S0 (XW cs a u sg ((ol, la cs f) :: Y)) s.heap := XW.push hW
  have hF2 : XF cs ea u sg ((ol, la cs f) :: Y) := hF.more (fun q9 h9 => List.mem_cons_of_mem _ h9)
  refine z_cmI (va_runV (As := []) (rest := [.int (nI 0), .ref ol]) ⟨hx, hb, hml, hown, hts⟩ hM (cwV 0 hts gL_store_X2_store rfl rfl rfl (by decide +kernel) ⟨Nat.le_of_ble_eq_true rfl, Nat.le_of_ble_eq_true rfl⟩) ⟨zE_blind, z_recv hK (hW2.1 0 _ rfl) rfl, zE_pre hW2 hK hE hS⟩ rfl rfl hl.1 rfl (lv_room (Nat.le_of_ble_eq_true rfl)) dL_store_3 ⟨Nat.le_of_ble_eq_true rfl, Nat.le_of_ble_eq_true rfl⟩) hS (fun r v H locs hu hW hS => ?_)
  obtain ⟨hu1, hu2⟩ := hu
  rw [hu1]
  have hW := XW.pull hW
  have hF3 : XF cs ea v.1 τ (v.2 ++ Y) := hu2.sel (sel_drop (A := [(ol, la cs f)]) (fun q9 h9 => by rw [List.mem_singleton.mp h9]; exact okE_la))
  have hW : Wd D S0 ((ol, la cs f) :: XW cs a v.1 τ (v.2 ++ Y)) H := hW
  refine lv_i2l (v := R9.toInt64) hx hb dL_store_6 rfl ?_
  refine z_last hx hb hK hW hS dL_store_7 (fun H locs g9 hg9 hW hS => ?_)
  have hW : Wd D S0 ((ol, la cs g9) :: XW cs a v.1 τ (v.2 ++ Y)) H := hW
  refine lv_goto (tgt := 14) hx hb dL_store_8 (by decide) ?_
  refine lv_iconst (v := nI 0) hx hb dL_store_14 (by decide) ?_
  refine W.widen (k := 5) (n := 1607) (by omega) (by omega) ?_
  exact W.iret (v := nI 0) hx hb hr (fun t ht hW9 => ⟨⟨_, (v.1, v.2, g9), rfl, ⟨rfl, fun _ => hg9, hF3⟩, (by show Wd D S0 _ _; rw [ht]; exact hW)⟩, hS.F ht⟩) (fun q9 h9 => hS.2.2 q9 h9) dL_store_15

set_option maxHeartbeats 4000000 in
set_option maxRecDepth 100000 in
theorem h_store_IS (l : Launch) (D : va_G) (cs : Nat → ClassId) (S0 ea mi : Nat) (sa : Nat → Nat) (Y : va_W) (a : Nat → Nat) (u : XU) (sg : St) (hF : XF cs ea u sg Y) (ol : Nat) (f : Nat → Int64)  (R9 : Int64) (hM : vT l yX2_store wsX2_store RmT (zE [.ref (a 0)] (fun H => XH D cs a u sg H) D cs S0 ea mi sa) eIS) : hOK l D cs S0 ea mi sa Y a u sg ol f yL_store wsL_store [.ref (a 0), .ref ol] 1 R9 sg := by
  refine z_ofWH (cc := cL_store) (maxL := 3) (ret := (some .int)) (hh := [(0, 8, 11, 15)]) (by decide) rfl ?_
  intro p e s m args below meth c s₁ B hml hv
  obtain ⟨⟨rfl, hW, hK, hE⟩, hN⟩ := hv
  have hx := B.exec
  have hb := B.bytes
  have hr := B.returns
  have hts := atoms_spec (ws := wsL_store) B.pre
  have hown : s.vm.findClass RL = some m.cls := findClass_of_methodNamed B.named
  have hlocks := B.notSynchronized
  have htab : c.exceptionTable.toList = tableOf [(0, 8, 11, 15)] := vx_table (x := yL_store) B (hts _ List.mem_cons_self)
  have hRc : (headSpec wsL_store RmH).room.cells = 5 := rfl
  have hRs : (headSpec wsL_store RmH).room.slots = 1607 := rfl
  have hW : Wd D S0 ((ol, la cs f) :: XW cs a u sg Y) s.heap := hW
  have hS : va_S (SA S0) s.heap s.heap [] := va_S.rf
  have hl := lv_entry ([.ref (a 0), .ref ol]) (n := 3) (Nat.le_of_ble_eq_true rfl)
  rw [lg_entry_eq]
  generalize (lg_sl ([.ref (a 0), .ref ol]) ++ List.replicate (3 - (lg_sl ([.ref (a 0), .ref ol])).length) Slot.unset).toArray = ls at hl ⊢
  have hl : lv_has ls 3 [(0, .ref (a 0)), (1, .ref ol)] := hl
  refine lv_aload_n hx hb dL_store_0 rfl (lv_at hl 1 rfl) ?_
  refine lv_iconst (v := nI 0) hx hb dL_store_1 (by decide) ?_
  refine lv_aload_n hx hb dL_store_2 rfl (lv_at hl 0 rfl) ?_
  have hW2 : Wd D S0 (XW cs a u sg ((ol, la cs f) :: Y)) s.heap := XW.push hW
  have hF2 : XF cs ea u sg ((ol, la cs f) :: Y) := hF.more (fun q9 h9 => List.mem_cons_of_mem _ h9)
  have hPH2 := XH.of (D := D) hW2 hF2
  refine z_cat (vx_runV (As := []) (rest := [.int (nI 0), .ref ol]) ⟨hx, hb, hml, hown, hts⟩ hM (cwV 0 hts gL_store_X2_store rfl rfl rfl (by decide +kernel) ⟨Nat.le_of_ble_eq_true rfl, Nat.le_of_ble_eq_true rfl⟩) ⟨zE_blind, z_recv hK (hW2.1 0 _ rfl) rfl, zE_pre hPH2 hK hE va_S.rf⟩ rfl rfl hl.1 rfl (lv_room (Nat.le_of_ble_eq_true rfl)) dL_store_3 ⟨Nat.le_of_ble_eq_true rfl, Nat.le_of_ble_eq_true rfl⟩) (fun H q8 ce hz9 hk9 hq1 hq2 hq3 => ?_)
  have hW : Wd D S0 ((ol, la cs f) :: XW cs a u sg Y) H := hW.kept hz9 hk9
  have hS : va_S (SA S0) s.heap H [] := ⟨hz9, fun q9 h9 _ => hk9 q9 h9, fun q9 h9 => absurd h9 List.not_mem_nil⟩
  refine vx_catch (name := eIS) hown [] ⟨0, 8, 11, 15⟩ [] htab (fun z9 h9 => absurd h9 List.not_mem_nil) (by decide) (by decide) (hts (.classLink RL 15 eIS) (by decide +kernel)) (va_Nw.use rfl (hE.2.2.2.2.1 (eIS, eIS) (by decide))) hq1 hq2 hq3 ?_
  refine lv_astore_n (lv' := [(2, .ref q8), (0, .ref (a 0)), (1, .ref ol)]) hx hb dL_store_11 rfl hl (by decide) rfl (fun ls hl => ?_)
  refine lv_iconst (v := nI 1) hx hb dL_store_12 (by decide) ?_
  refine W.widen (k := 5) (n := 1607) (by omega) (by omega) ?_
  exact W.iret (v := nI 1) hx hb hr (fun t ht hW9 => ⟨⟨_, (u, [], f), rfl, ⟨rfl, fun h9 => absurd h9 (by decide), hF⟩, (by show Wd D S0 _ _; rw [ht]; exact hW)⟩, hS.F ht⟩) (fun q9 h9 => hS.2.2 q9 h9) dL_store_13

set_option maxHeartbeats 4000000 in
set_option maxRecDepth 100000 in
theorem h_length_ok (l : Launch) (D : va_G) (cs : Nat → ClassId) (S0 ea mi : Nat) (sa : Nat → Nat) (Y : va_W) (a : Nat → Nat) (u : XU) (sg : St) (hF : XF cs ea u sg Y) (ol : Nat) (f : Nat → Int64) (p0 : Int32) (R9 : Int32) (τ : St) (hM : xOK l D cs S0 ea mi sa ((ol, la cs f) :: Y) a u sg yX2_length wsX2_length [.ref (a 0), .int p0] R9 τ) : hOK l D cs S0 ea mi sa Y a u sg ol f yL_length wsL_length [.ref (a 0), .int p0, .ref ol] 0 R9.toInt64 τ := by
  refine z_ofWH (cc := cL_length) (maxL := 4) (ret := (some .int)) (hh := [(0, 9, 12, 25)]) (by decide) rfl ?_
  intro p e s m args below meth c s₁ B hml hv
  obtain ⟨⟨rfl, hW, hK, hE⟩, hN⟩ := hv
  have hx := B.exec
  have hb := B.bytes
  have hr := B.returns
  have hts := atoms_spec (ws := wsL_length) B.pre
  have hown : s.vm.findClass RL = some m.cls := findClass_of_methodNamed B.named
  have hlocks := B.notSynchronized
  have hRc : (headSpec wsL_length RmH).room.cells = 5 := rfl
  have hRs : (headSpec wsL_length RmH).room.slots = 1607 := rfl
  have hW : Wd D S0 ((ol, la cs f) :: XW cs a u sg Y) s.heap := hW
  have hS : va_S (SA S0) s.heap s.heap [] := va_S.rf
  have hl := lv_entry ([.ref (a 0), .int p0, .ref ol]) (n := 4) (Nat.le_of_ble_eq_true rfl)
  rw [lg_entry_eq]
  generalize (lg_sl ([.ref (a 0), .int p0, .ref ol]) ++ List.replicate (4 - (lg_sl ([.ref (a 0), .int p0, .ref ol])).length) Slot.unset).toArray = ls at hl ⊢
  have hl : lv_has ls 4 [(0, .ref (a 0)), (1, .int p0), (2, .ref ol)] := hl
  refine lv_aload_n hx hb dL_length_0 rfl (lv_at hl 2 rfl) ?_
  refine lv_iconst (v := nI 0) hx hb dL_length_1 (by decide) ?_
  refine lv_aload_n hx hb dL_length_2 rfl (lv_at hl 0 rfl) ?_
  refine lv_iload_n hx hb dL_length_3 rfl (lv_at hl 1 rfl) ?_
  have hW2 : Wd D S0 (XW cs a u sg ((ol, la cs f) :: Y)) s.heap := XW.push hW
  have hF2 : XF cs ea u sg ((ol, la cs f) :: Y) := hF.more (fun q9 h9 => List.mem_cons_of_mem _ h9)
  refine z_cmI (va_runV (As := [.int p0]) (rest := [.int (nI 0), .ref ol]) ⟨hx, hb, hml, hown, hts⟩ hM (cwV 1 hts gL_length_X2_length rfl rfl rfl (by decide +kernel) ⟨Nat.le_of_ble_eq_true rfl, Nat.le_of_ble_eq_true rfl⟩) ⟨zE_blind, z_recv hK (hW2.1 0 _ rfl) rfl, zE_pre hW2 hK hE hS⟩ rfl rfl hl.1 rfl (lv_room (Nat.le_of_ble_eq_true rfl)) dL_length_4 ⟨Nat.le_of_ble_eq_true rfl, Nat.le_of_ble_eq_true rfl⟩) hS (fun r v H locs hu hW hS => ?_)
  obtain ⟨hu1, hu2⟩ := hu
  rw [hu1]
  have hW := XW.pull hW
  have hF3 : XF cs ea v.1 τ (v.2 ++ Y) := hu2.sel (sel_drop (A := [(ol, la cs f)]) (fun q9 h9 => by rw [List.mem_singleton.mp h9]; exact okE_la))
  have hW : Wd D S0 ((ol, la cs f) :: XW cs a v.1 τ (v.2 ++ Y)) H := hW
  refine lv_i2l (v := R9.toInt64) hx hb dL_length_7 rfl ?_
  refine z_last hx hb hK hW hS dL_length_8 (fun H locs g9 hg9 hW hS => ?_)
  have hW : Wd D S0 ((ol, la cs g9) :: XW cs a v.1 τ (v.2 ++ Y)) H := hW
  refine lv_goto (tgt := 15) hx hb dL_length_9 (by decide) ?_
  refine lv_iconst (v := nI 0) hx hb dL_length_15 (by decide) ?_
  refine W.widen (k := 5) (n := 1607) (by omega) (by omega) ?_
  exact W.iret (v := nI 0) hx hb hr (fun t ht hW9 => ⟨⟨_, (v.1, v.2, g9), rfl, ⟨rfl, fun _ => hg9, hF3⟩, (by show Wd D S0 _ _; rw [ht]; exact hW)⟩, hS.F ht⟩) (fun q9 h9 => hS.2.2 q9 h9) dL_length_16

set_option maxHeartbeats 4000000 in
set_option maxRecDepth 100000 in
theorem h_length_IO (l : Launch) (D : va_G) (cs : Nat → ClassId) (S0 ea mi : Nat) (sa : Nat → Nat) (Y : va_W) (a : Nat → Nat) (u : XU) (sg : St) (hF : XF cs ea u sg Y) (ol : Nat) (f : Nat → Int64) (p0 : Int32) (R9 : Int64) (hM : vT l yX2_length wsX2_length RmT (zE [.ref (a 0), .int p0] (fun H => XH D cs a u sg H) D cs S0 ea mi sa) eIO) : hOK l D cs S0 ea mi sa Y a u sg ol f yL_length wsL_length [.ref (a 0), .int p0, .ref ol] 1 R9 sg := by
  refine z_ofWH (cc := cL_length) (maxL := 4) (ret := (some .int)) (hh := [(0, 9, 12, 25)]) (by decide) rfl ?_
  intro p e s m args below meth c s₁ B hml hv
  obtain ⟨⟨rfl, hW, hK, hE⟩, hN⟩ := hv
  have hx := B.exec
  have hb := B.bytes
  have hr := B.returns
  have hts := atoms_spec (ws := wsL_length) B.pre
  have hown : s.vm.findClass RL = some m.cls := findClass_of_methodNamed B.named
  have hlocks := B.notSynchronized
  have htab : c.exceptionTable.toList = tableOf [(0, 9, 12, 25)] := vx_table (x := yL_length) B (hts _ List.mem_cons_self)
  have hRc : (headSpec wsL_length RmH).room.cells = 5 := rfl
  have hRs : (headSpec wsL_length RmH).room.slots = 1607 := rfl
  have hW : Wd D S0 ((ol, la cs f) :: XW cs a u sg Y) s.heap := hW
  have hS : va_S (SA S0) s.heap s.heap [] := va_S.rf
  have hl := lv_entry ([.ref (a 0), .int p0, .ref ol]) (n := 4) (Nat.le_of_ble_eq_true rfl)
  rw [lg_entry_eq]
  generalize (lg_sl ([.ref (a 0), .int p0, .ref ol]) ++ List.replicate (4 - (lg_sl ([.ref (a 0), .int p0, .ref ol])).length) Slot.unset).toArray = ls at hl ⊢
  have hl : lv_has ls 4 [(0, .ref (a 0)), (1, .int p0), (2, .ref ol)] := hl
  refine lv_aload_n hx hb dL_length_0 rfl (lv_at hl 2 rfl) ?_
  refine lv_iconst (v := nI 0) hx hb dL_length_1 (by decide) ?_
  refine lv_aload_n hx hb dL_length_2 rfl (lv_at hl 0 rfl) ?_
  refine lv_iload_n hx hb dL_length_3 rfl (lv_at hl 1 rfl) ?_
  have hW2 : Wd D S0 (XW cs a u sg ((ol, la cs f) :: Y)) s.heap := XW.push hW
  have hF2 : XF cs ea u sg ((ol, la cs f) :: Y) := hF.more (fun q9 h9 => List.mem_cons_of_mem _ h9)
  have hPH2 := XH.of (D := D) hW2 hF2
  refine z_cat (vx_runV (As := [.int p0]) (rest := [.int (nI 0), .ref ol]) ⟨hx, hb, hml, hown, hts⟩ hM (cwV 1 hts gL_length_X2_length rfl rfl rfl (by decide +kernel) ⟨Nat.le_of_ble_eq_true rfl, Nat.le_of_ble_eq_true rfl⟩) ⟨zE_blind, z_recv hK (hW2.1 0 _ rfl) rfl, zE_pre hPH2 hK hE va_S.rf⟩ rfl rfl hl.1 rfl (lv_room (Nat.le_of_ble_eq_true rfl)) dL_length_4 ⟨Nat.le_of_ble_eq_true rfl, Nat.le_of_ble_eq_true rfl⟩) (fun H q8 ce hz9 hk9 hq1 hq2 hq3 => ?_)
  have hW : Wd D S0 ((ol, la cs f) :: XW cs a u sg Y) H := hW.kept hz9 hk9
  have hS : va_S (SA S0) s.heap H [] := ⟨hz9, fun q9 h9 _ => hk9 q9 h9, fun q9 h9 => absurd h9 List.not_mem_nil⟩
  refine vx_catch (name := eIO) hown [] ⟨0, 9, 12, 25⟩ [] htab (fun z9 h9 => absurd h9 List.not_mem_nil) (by decide) (by decide) (hts (.classLink RL 25 eIO) (by decide +kernel)) (va_Nw.use rfl (hE.2.2.2.2.1 (eIO, eIO) (by decide))) hq1 hq2 hq3 ?_
  refine lv_astore_n (lv' := [(3, .ref q8), (0, .ref (a 0)), (1, .int p0), (2, .ref ol)]) hx hb dL_length_12 rfl hl (by decide) rfl (fun ls hl => ?_)
  refine lv_iconst (v := nI 1) hx hb dL_length_13 (by decide) ?_
  refine W.widen (k := 5) (n := 1607) (by omega) (by omega) ?_
  exact W.iret (v := nI 1) hx hb hr (fun t ht hW9 => ⟨⟨_, (u, [], f), rfl, ⟨rfl, fun h9 => absurd h9 (by decide), hF⟩, (by show Wd D S0 _ _; rw [ht]; exact hW)⟩, hS.F ht⟩) (fun q9 h9 => hS.2.2 q9 h9) dL_length_14

set_option maxHeartbeats 4000000 in
set_option maxRecDepth 100000 in
theorem h_byteAt_ok (l : Launch) (D : va_G) (cs : Nat → ClassId) (S0 ea mi : Nat) (sa : Nat → Nat) (Y : va_W) (a : Nat → Nat) (u : XU) (sg : St) (hF : XF cs ea u sg Y) (ol : Nat) (f : Nat → Int64) (p0 : Int32) (p1 : Int32) (R9 : Int32) (τ : St) (hM : xOK l D cs S0 ea mi sa ((ol, la cs f) :: Y) a u sg yX2_byteAt wsX2_byteAt [.ref (a 0), .int p0, .int p1] R9 τ) : hOK l D cs S0 ea mi sa Y a u sg ol f yL_byteAt wsL_byteAt [.ref (a 0), .int p0, .int p1, .ref ol] 0 R9.toInt64 τ := by
  refine z_ofWH (cc := cL_byteAt) (maxL := 5) (ret := (some .int)) (hh := [(0, 10, 13, 25)]) (by decide) rfl ?_
  intro p e s m args below meth c s₁ B hml hv
  obtain ⟨⟨rfl, hW, hK, hE⟩, hN⟩ := hv
  have hx := B.exec
  have hb := B.bytes
  have hr := B.returns
  have hts := atoms_spec (ws := wsL_byteAt) B.pre
  have hown : s.vm.findClass RL = some m.cls := findClass_of_methodNamed B.named
  have hlocks := B.notSynchronized
  have hRc : (headSpec wsL_byteAt RmH).room.cells = 5 := rfl
  have hRs : (headSpec wsL_byteAt RmH).room.slots = 1607 := rfl
  have hW : Wd D S0 ((ol, la cs f) :: XW cs a u sg Y) s.heap := hW
  have hS : va_S (SA S0) s.heap s.heap [] := va_S.rf
  have hl := lv_entry ([.ref (a 0), .int p0, .int p1, .ref ol]) (n := 5) (Nat.le_of_ble_eq_true rfl)
  rw [lg_entry_eq]
  generalize (lg_sl ([.ref (a 0), .int p0, .int p1, .ref ol]) ++ List.replicate (5 - (lg_sl ([.ref (a 0), .int p0, .int p1, .ref ol])).length) Slot.unset).toArray = ls at hl ⊢
  have hl : lv_has ls 5 [(0, .ref (a 0)), (1, .int p0), (2, .int p1), (3, .ref ol)] := hl
  refine lv_aload_n hx hb dL_byteAt_0 rfl (lv_at hl 3 rfl) ?_
  refine lv_iconst (v := nI 0) hx hb dL_byteAt_1 (by decide) ?_
  refine lv_aload_n hx hb dL_byteAt_2 rfl (lv_at hl 0 rfl) ?_
  refine lv_iload_n hx hb dL_byteAt_3 rfl (lv_at hl 1 rfl) ?_
  refine lv_iload_n hx hb dL_byteAt_4 rfl (lv_at hl 2 rfl) ?_
  have hW2 : Wd D S0 (XW cs a u sg ((ol, la cs f) :: Y)) s.heap := XW.push hW
  have hF2 : XF cs ea u sg ((ol, la cs f) :: Y) := hF.more (fun q9 h9 => List.mem_cons_of_mem _ h9)
  refine z_cmI (va_runV (As := [.int p0, .int p1]) (rest := [.int (nI 0), .ref ol]) ⟨hx, hb, hml, hown, hts⟩ hM (cwV 2 hts gL_byteAt_X2_byteAt rfl rfl rfl (by decide +kernel) ⟨Nat.le_of_ble_eq_true rfl, Nat.le_of_ble_eq_true rfl⟩) ⟨zE_blind, z_recv hK (hW2.1 0 _ rfl) rfl, zE_pre hW2 hK hE hS⟩ rfl rfl hl.1 rfl (lv_room (Nat.le_of_ble_eq_true rfl)) dL_byteAt_5 ⟨Nat.le_of_ble_eq_true rfl, Nat.le_of_ble_eq_true rfl⟩) hS (fun r v H locs hu hW hS => ?_)
  obtain ⟨hu1, hu2⟩ := hu
  rw [hu1]
  have hW := XW.pull hW
  have hF3 : XF cs ea v.1 τ (v.2 ++ Y) := hu2.sel (sel_drop (A := [(ol, la cs f)]) (fun q9 h9 => by rw [List.mem_singleton.mp h9]; exact okE_la))
  have hW : Wd D S0 ((ol, la cs f) :: XW cs a v.1 τ (v.2 ++ Y)) H := hW
  refine lv_i2l (v := R9.toInt64) hx hb dL_byteAt_8 rfl ?_
  refine z_last hx hb hK hW hS dL_byteAt_9 (fun H locs g9 hg9 hW hS => ?_)
  have hW : Wd D S0 ((ol, la cs g9) :: XW cs a v.1 τ (v.2 ++ Y)) H := hW
  refine lv_goto (tgt := 17) hx hb dL_byteAt_10 (by decide) ?_
  refine lv_iconst (v := nI 0) hx hb dL_byteAt_17 (by decide) ?_
  refine W.widen (k := 5) (n := 1607) (by omega) (by omega) ?_
  exact W.iret (v := nI 0) hx hb hr (fun t ht hW9 => ⟨⟨_, (v.1, v.2, g9), rfl, ⟨rfl, fun _ => hg9, hF3⟩, (by show Wd D S0 _ _; rw [ht]; exact hW)⟩, hS.F ht⟩) (fun q9 h9 => hS.2.2 q9 h9) dL_byteAt_18

set_option maxHeartbeats 4000000 in
set_option maxRecDepth 100000 in
theorem h_byteAt_IO (l : Launch) (D : va_G) (cs : Nat → ClassId) (S0 ea mi : Nat) (sa : Nat → Nat) (Y : va_W) (a : Nat → Nat) (u : XU) (sg : St) (hF : XF cs ea u sg Y) (ol : Nat) (f : Nat → Int64) (p0 : Int32) (p1 : Int32) (R9 : Int64) (hM : vT l yX2_byteAt wsX2_byteAt RmT (zE [.ref (a 0), .int p0, .int p1] (fun H => XH D cs a u sg H) D cs S0 ea mi sa) eIO) : hOK l D cs S0 ea mi sa Y a u sg ol f yL_byteAt wsL_byteAt [.ref (a 0), .int p0, .int p1, .ref ol] 1 R9 sg := by
  refine z_ofWH (cc := cL_byteAt) (maxL := 5) (ret := (some .int)) (hh := [(0, 10, 13, 25)]) (by decide) rfl ?_
  intro p e s m args below meth c s₁ B hml hv
  obtain ⟨⟨rfl, hW, hK, hE⟩, hN⟩ := hv
  have hx := B.exec
  have hb := B.bytes
  have hr := B.returns
  have hts := atoms_spec (ws := wsL_byteAt) B.pre
  have hown : s.vm.findClass RL = some m.cls := findClass_of_methodNamed B.named
  have hlocks := B.notSynchronized
  have htab : c.exceptionTable.toList = tableOf [(0, 10, 13, 25)] := vx_table (x := yL_byteAt) B (hts _ List.mem_cons_self)
  have hRc : (headSpec wsL_byteAt RmH).room.cells = 5 := rfl
  have hRs : (headSpec wsL_byteAt RmH).room.slots = 1607 := rfl
  have hW : Wd D S0 ((ol, la cs f) :: XW cs a u sg Y) s.heap := hW
  have hS : va_S (SA S0) s.heap s.heap [] := va_S.rf
  have hl := lv_entry ([.ref (a 0), .int p0, .int p1, .ref ol]) (n := 5) (Nat.le_of_ble_eq_true rfl)
  rw [lg_entry_eq]
  generalize (lg_sl ([.ref (a 0), .int p0, .int p1, .ref ol]) ++ List.replicate (5 - (lg_sl ([.ref (a 0), .int p0, .int p1, .ref ol])).length) Slot.unset).toArray = ls at hl ⊢
  have hl : lv_has ls 5 [(0, .ref (a 0)), (1, .int p0), (2, .int p1), (3, .ref ol)] := hl
  refine lv_aload_n hx hb dL_byteAt_0 rfl (lv_at hl 3 rfl) ?_
  refine lv_iconst (v := nI 0) hx hb dL_byteAt_1 (by decide) ?_
  refine lv_aload_n hx hb dL_byteAt_2 rfl (lv_at hl 0 rfl) ?_
  refine lv_iload_n hx hb dL_byteAt_3 rfl (lv_at hl 1 rfl) ?_
  refine lv_iload_n hx hb dL_byteAt_4 rfl (lv_at hl 2 rfl) ?_
  have hW2 : Wd D S0 (XW cs a u sg ((ol, la cs f) :: Y)) s.heap := XW.push hW
  have hF2 : XF cs ea u sg ((ol, la cs f) :: Y) := hF.more (fun q9 h9 => List.mem_cons_of_mem _ h9)
  have hPH2 := XH.of (D := D) hW2 hF2
  refine z_cat (vx_runV (As := [.int p0, .int p1]) (rest := [.int (nI 0), .ref ol]) ⟨hx, hb, hml, hown, hts⟩ hM (cwV 2 hts gL_byteAt_X2_byteAt rfl rfl rfl (by decide +kernel) ⟨Nat.le_of_ble_eq_true rfl, Nat.le_of_ble_eq_true rfl⟩) ⟨zE_blind, z_recv hK (hW2.1 0 _ rfl) rfl, zE_pre hPH2 hK hE va_S.rf⟩ rfl rfl hl.1 rfl (lv_room (Nat.le_of_ble_eq_true rfl)) dL_byteAt_5 ⟨Nat.le_of_ble_eq_true rfl, Nat.le_of_ble_eq_true rfl⟩) (fun H q8 ce hz9 hk9 hq1 hq2 hq3 => ?_)
  have hW : Wd D S0 ((ol, la cs f) :: XW cs a u sg Y) H := hW.kept hz9 hk9
  have hS : va_S (SA S0) s.heap H [] := ⟨hz9, fun q9 h9 _ => hk9 q9 h9, fun q9 h9 => absurd h9 List.not_mem_nil⟩
  refine vx_catch (name := eIO) hown [] ⟨0, 10, 13, 25⟩ [] htab (fun z9 h9 => absurd h9 List.not_mem_nil) (by decide) (by decide) (hts (.classLink RL 25 eIO) (by decide +kernel)) (va_Nw.use rfl (hE.2.2.2.2.1 (eIO, eIO) (by decide))) hq1 hq2 hq3 ?_
  refine lv_astore (lv' := [(4, .ref q8), (0, .ref (a 0)), (1, .int p0), (2, .int p1), (3, .ref ol)]) hx hb dL_byteAt_13 hl (by decide) rfl (fun ls hl => ?_)
  refine lv_iconst (v := nI 1) hx hb dL_byteAt_15 (by decide) ?_
  refine W.widen (k := 5) (n := 1607) (by omega) (by omega) ?_
  exact W.iret (v := nI 1) hx hb hr (fun t ht hW9 => ⟨⟨_, (u, [], f), rfl, ⟨rfl, fun h9 => absurd h9 (by decide), hF⟩, (by show Wd D S0 _ _; rw [ht]; exact hW)⟩, hS.F ht⟩) (fun q9 h9 => hS.2.2 q9 h9) dL_byteAt_16

set_option maxHeartbeats 4000000 in
set_option maxRecDepth 100000 in
theorem h_areSame_ok (l : Launch) (D : va_G) (cs : Nat → ClassId) (S0 ea mi : Nat) (sa : Nat → Nat) (Y : va_W) (a : Nat → Nat) (u : XU) (sg : St) (hF : XF cs ea u sg Y) (ol : Nat) (f : Nat → Int64) (p0 : Int32) (p1 : Int32) (cb : Bool) (τ : St) (hM : xOK l D cs S0 ea mi sa ((ol, la cs f) :: Y) a u sg yX2_areSame wsX2_areSame [.ref (a 0), .int p0, .int p1] (bI cb) τ) : hOK l D cs S0 ea mi sa Y a u sg ol f yL_areSame wsL_areSame [.ref (a 0), .int p0, .int p1, .ref ol] 0 (if cb = true then 1 else 0) τ := by
  refine z_ofWH (cc := cL_areSame) (maxL := 5) (ret := (some .int)) (hh := [(0, 17, 20, 25)]) (by decide) rfl ?_
  intro p e s m args below meth c s₁ B hml hv
  obtain ⟨⟨rfl, hW, hK, hE⟩, hN⟩ := hv
  have hx := B.exec
  have hb := B.bytes
  have hr := B.returns
  have hts := atoms_spec (ws := wsL_areSame) B.pre
  have hown : s.vm.findClass RL = some m.cls := findClass_of_methodNamed B.named
  have hlocks := B.notSynchronized
  have hRc : (headSpec wsL_areSame RmH).room.cells = 5 := rfl
  have hRs : (headSpec wsL_areSame RmH).room.slots = 1607 := rfl
  have hW : Wd D S0 ((ol, la cs f) :: XW cs a u sg Y) s.heap := hW
  have hS : va_S (SA S0) s.heap s.heap [] := va_S.rf
  have hl := lv_entry ([.ref (a 0), .int p0, .int p1, .ref ol]) (n := 5) (Nat.le_of_ble_eq_true rfl)
  rw [lg_entry_eq]
  generalize (lg_sl ([.ref (a 0), .int p0, .int p1, .ref ol]) ++ List.replicate (5 - (lg_sl ([.ref (a 0), .int p0, .int p1, .ref ol])).length) Slot.unset).toArray = ls at hl ⊢
  have hl : lv_has ls 5 [(0, .ref (a 0)), (1, .int p0), (2, .int p1), (3, .ref ol)] := hl
  refine lv_aload_n hx hb dL_areSame_0 rfl (lv_at hl 3 rfl) ?_
  refine lv_iconst (v := nI 0) hx hb dL_areSame_1 (by decide) ?_
  refine lv_aload_n hx hb dL_areSame_2 rfl (lv_at hl 0 rfl) ?_
  refine lv_iload_n hx hb dL_areSame_3 rfl (lv_at hl 1 rfl) ?_
  refine lv_iload_n hx hb dL_areSame_4 rfl (lv_at hl 2 rfl) ?_
  have hW2 : Wd D S0 (XW cs a u sg ((ol, la cs f) :: Y)) s.heap := XW.push hW
  have hF2 : XF cs ea u sg ((ol, la cs f) :: Y) := hF.more (fun q9 h9 => List.mem_cons_of_mem _ h9)
  refine z_cmI (va_runV (As := [.int p0, .int p1]) (rest := [.int (nI 0), .ref ol]) ⟨hx, hb, hml, hown, hts⟩ hM (cwV 2 hts gL_areSame_X2_areSame rfl rfl rfl (by decide +kernel) ⟨Nat.le_of_ble_eq_true rfl, Nat.le_of_ble_eq_true rfl⟩) ⟨zE_blind, z_recv hK (hW2.1 0 _ rfl) rfl, zE_pre hW2 hK hE hS⟩ rfl rfl hl.1 rfl (lv_room (Nat.le_of_ble_eq_true rfl)) dL_areSame_5 ⟨Nat.le_of_ble_eq_true rfl, Nat.le_of_ble_eq_true rfl⟩) hS (fun r v H locs hu hW hS => ?_)
  obtain ⟨hu1, hu2⟩ := hu
  rw [hu1]
  have hW := XW.pull hW
  have hF3 : XF cs ea v.1 τ (v.2 ++ Y) := hu2.sel (sel_drop (A := [(ol, la cs f)]) (fun q9 h9 => by rw [List.mem_singleton.mp h9]; exact okE_la))
  have hW : Wd D S0 ((ol, la cs f) :: XW cs a v.1 τ (v.2 ++ Y)) H := hW
  refine z_ifb_eq (tgt := 15) hx hb dL_areSame_8 (by decide) (fun hc8 => ?_) (fun hc8 => ?_)
  · skip
    have hc8 : cb = false := hc8
    have hcb := hc8
    refine lv_lconst (v := 0) hx hb dL_areSame_15 (by decide) ?_
    refine z_last hx hb hK hW hS dL_areSame_16 (fun H locs g9 hg9 hW hS => ?_)
    have hW : Wd D S0 ((ol, la cs g9) :: XW cs a v.1 τ (v.2 ++ Y)) H := hW
    refine lv_goto (tgt := 24) hx hb dL_areSame_17 (by decide) ?_
    refine lv_iconst (v := nI 0) hx hb dL_areSame_24 (by decide) ?_
    refine W.widen (k := 5) (n := 1607) (by omega) (by omega) ?_
    exact W.iret (v := nI 0) hx hb hr (fun t ht hW9 => ⟨⟨_, (v.1, v.2, g9), rfl, ⟨rfl, fun _ => hg9.trans (if_neg (show ¬ cb = true by rw [hcb]; decide)).symm, hF3⟩, (by show Wd D S0 _ _; rw [ht]; exact hW)⟩, hS.F ht⟩) (fun q9 h9 => hS.2.2 q9 h9) dL_areSame_25
  · skip
    have hc8 : cb = true := hc8
    have hcb := hc8
    refine lv_lconst (v := 1) hx hb dL_areSame_11 (by decide) ?_
    refine lv_goto (tgt := 16) hx hb dL_areSame_12 (by decide) ?_
    refine z_last hx hb hK hW hS dL_areSame_16 (fun H locs g9 hg9 hW hS => ?_)
    have hW : Wd D S0 ((ol, la cs g9) :: XW cs a v.1 τ (v.2 ++ Y)) H := hW
    refine lv_goto (tgt := 24) hx hb dL_areSame_17 (by decide) ?_
    refine lv_iconst (v := nI 0) hx hb dL_areSame_24 (by decide) ?_
    refine W.widen (k := 5) (n := 1607) (by omega) (by omega) ?_
    exact W.iret (v := nI 0) hx hb hr (fun t ht hW9 => ⟨⟨_, (v.1, v.2, g9), rfl, ⟨rfl, fun _ => hg9.trans (if_pos hcb).symm, hF3⟩, (by show Wd D S0 _ _; rw [ht]; exact hW)⟩, hS.F ht⟩) (fun q9 h9 => hS.2.2 q9 h9) dL_areSame_25

set_option maxHeartbeats 4000000 in
set_option maxRecDepth 100000 in
theorem h_areSame_IO (l : Launch) (D : va_G) (cs : Nat → ClassId) (S0 ea mi : Nat) (sa : Nat → Nat) (Y : va_W) (a : Nat → Nat) (u : XU) (sg : St) (hF : XF cs ea u sg Y) (ol : Nat) (f : Nat → Int64) (p0 : Int32) (p1 : Int32) (R9 : Int64) (hM : vT l yX2_areSame wsX2_areSame RmT (zE [.ref (a 0), .int p0, .int p1] (fun H => XH D cs a u sg H) D cs S0 ea mi sa) eIO) : hOK l D cs S0 ea mi sa Y a u sg ol f yL_areSame wsL_areSame [.ref (a 0), .int p0, .int p1, .ref ol] 1 R9 sg := by
  refine z_ofWH (cc := cL_areSame) (maxL := 5) (ret := (some .int)) (hh := [(0, 17, 20, 25)]) (by decide) rfl ?_
  intro p e s m args below meth c s₁ B hml hv
  obtain ⟨⟨rfl, hW, hK, hE⟩, hN⟩ := hv
  have hx := B.exec
  have hb := B.bytes
  have hr := B.returns
  have hts := atoms_spec (ws := wsL_areSame) B.pre
  have hown : s.vm.findClass RL = some m.cls := findClass_of_methodNamed B.named
  have hlocks := B.notSynchronized
  have htab : c.exceptionTable.toList = tableOf [(0, 17, 20, 25)] := vx_table (x := yL_areSame) B (hts _ List.mem_cons_self)
  have hRc : (headSpec wsL_areSame RmH).room.cells = 5 := rfl
  have hRs : (headSpec wsL_areSame RmH).room.slots = 1607 := rfl
  have hW : Wd D S0 ((ol, la cs f) :: XW cs a u sg Y) s.heap := hW
  have hS : va_S (SA S0) s.heap s.heap [] := va_S.rf
  have hl := lv_entry ([.ref (a 0), .int p0, .int p1, .ref ol]) (n := 5) (Nat.le_of_ble_eq_true rfl)
  rw [lg_entry_eq]
  generalize (lg_sl ([.ref (a 0), .int p0, .int p1, .ref ol]) ++ List.replicate (5 - (lg_sl ([.ref (a 0), .int p0, .int p1, .ref ol])).length) Slot.unset).toArray = ls at hl ⊢
  have hl : lv_has ls 5 [(0, .ref (a 0)), (1, .int p0), (2, .int p1), (3, .ref ol)] := hl
  refine lv_aload_n hx hb dL_areSame_0 rfl (lv_at hl 3 rfl) ?_
  refine lv_iconst (v := nI 0) hx hb dL_areSame_1 (by decide) ?_
  refine lv_aload_n hx hb dL_areSame_2 rfl (lv_at hl 0 rfl) ?_
  refine lv_iload_n hx hb dL_areSame_3 rfl (lv_at hl 1 rfl) ?_
  refine lv_iload_n hx hb dL_areSame_4 rfl (lv_at hl 2 rfl) ?_
  have hW2 : Wd D S0 (XW cs a u sg ((ol, la cs f) :: Y)) s.heap := XW.push hW
  have hF2 : XF cs ea u sg ((ol, la cs f) :: Y) := hF.more (fun q9 h9 => List.mem_cons_of_mem _ h9)
  have hPH2 := XH.of (D := D) hW2 hF2
  refine z_cat (vx_runV (As := [.int p0, .int p1]) (rest := [.int (nI 0), .ref ol]) ⟨hx, hb, hml, hown, hts⟩ hM (cwV 2 hts gL_areSame_X2_areSame rfl rfl rfl (by decide +kernel) ⟨Nat.le_of_ble_eq_true rfl, Nat.le_of_ble_eq_true rfl⟩) ⟨zE_blind, z_recv hK (hW2.1 0 _ rfl) rfl, zE_pre hPH2 hK hE va_S.rf⟩ rfl rfl hl.1 rfl (lv_room (Nat.le_of_ble_eq_true rfl)) dL_areSame_5 ⟨Nat.le_of_ble_eq_true rfl, Nat.le_of_ble_eq_true rfl⟩) (fun H q8 ce hz9 hk9 hq1 hq2 hq3 => ?_)
  have hW : Wd D S0 ((ol, la cs f) :: XW cs a u sg Y) H := hW.kept hz9 hk9
  have hS : va_S (SA S0) s.heap H [] := ⟨hz9, fun q9 h9 _ => hk9 q9 h9, fun q9 h9 => absurd h9 List.not_mem_nil⟩
  refine vx_catch (name := eIO) hown [] ⟨0, 17, 20, 25⟩ [] htab (fun z9 h9 => absurd h9 List.not_mem_nil) (by decide) (by decide) (hts (.classLink RL 25 eIO) (by decide +kernel)) (va_Nw.use rfl (hE.2.2.2.2.1 (eIO, eIO) (by decide))) hq1 hq2 hq3 ?_
  refine lv_astore (lv' := [(4, .ref q8), (0, .ref (a 0)), (1, .int p0), (2, .int p1), (3, .ref ol)]) hx hb dL_areSame_20 hl (by decide) rfl (fun ls hl => ?_)
  refine lv_iconst (v := nI 1) hx hb dL_areSame_22 (by decide) ?_
  refine W.widen (k := 5) (n := 1607) (by omega) (by omega) ?_
  exact W.iret (v := nI 1) hx hb hr (fun t ht hW9 => ⟨⟨_, (u, [], f), rfl, ⟨rfl, fun h9 => absurd h9 (by decide), hF⟩, (by show Wd D S0 _ _; rw [ht]; exact hW)⟩, hS.F ht⟩) (fun q9 h9 => hS.2.2 q9 h9) dL_areSame_23

set_option maxHeartbeats 4000000 in
set_option maxRecDepth 100000 in
theorem h_weakSum_ok (l : Launch) (D : va_G) (cs : Nat → ClassId) (S0 ea mi : Nat) (sa : Nat → Nat) (Y : va_W) (a : Nat → Nat) (u : XU) (sg : St) (hF : XF cs ea u sg Y) (ol : Nat) (f : Nat → Int64) (p0 : Int32) (p1 : Int32) (p2 : Int32) (R9 : Int32) (τ : St) (hM : xOK l D cs S0 ea mi sa ((ol, la cs f) :: Y) a u sg yX2_weakSum wsX2_weakSum [.ref (a 0), .int p0, .int p1, .int p2] R9 τ) : hOK l D cs S0 ea mi sa Y a u sg ol f yL_weakSum wsL_weakSum [.ref (a 0), .int p0, .int p1, .int p2, .ref ol] 0 R9.toInt64 τ := by
  refine z_ofWH (cc := cL_weakSum) (maxL := 6) (ret := (some .int)) (hh := [(0, 12, 15, 25), (0, 12, 19, 13)]) (by decide) rfl ?_
  intro p e s m args below meth c s₁ B hml hv
  obtain ⟨⟨rfl, hW, hK, hE⟩, hN⟩ := hv
  have hx := B.exec
  have hb := B.bytes
  have hr := B.returns
  have hts := atoms_spec (ws := wsL_weakSum) B.pre
  have hown : s.vm.findClass RL = some m.cls := findClass_of_methodNamed B.named
  have hlocks := B.notSynchronized
  have hRc : (headSpec wsL_weakSum RmH).room.cells = 5 := rfl
  have hRs : (headSpec wsL_weakSum RmH).room.slots = 1607 := rfl
  have hW : Wd D S0 ((ol, la cs f) :: XW cs a u sg Y) s.heap := hW
  have hS : va_S (SA S0) s.heap s.heap [] := va_S.rf
  have hl := lv_entry ([.ref (a 0), .int p0, .int p1, .int p2, .ref ol]) (n := 6) (Nat.le_of_ble_eq_true rfl)
  rw [lg_entry_eq]
  generalize (lg_sl ([.ref (a 0), .int p0, .int p1, .int p2, .ref ol]) ++ List.replicate (6 - (lg_sl ([.ref (a 0), .int p0, .int p1, .int p2, .ref ol])).length) Slot.unset).toArray = ls at hl ⊢
  have hl : lv_has ls 6 [(0, .ref (a 0)), (1, .int p0), (2, .int p1), (3, .int p2), (4, .ref ol)] := hl
  refine lv_aload hx hb dL_weakSum_0 (lv_at hl 4 rfl) ?_
  refine lv_iconst (v := nI 0) hx hb dL_weakSum_2 (by decide) ?_
  refine lv_aload_n hx hb dL_weakSum_3 rfl (lv_at hl 0 rfl) ?_
  refine lv_iload_n hx hb dL_weakSum_4 rfl (lv_at hl 1 rfl) ?_
  refine lv_iload_n hx hb dL_weakSum_5 rfl (lv_at hl 2 rfl) ?_
  refine lv_iload_n hx hb dL_weakSum_6 rfl (lv_at hl 3 rfl) ?_
  have hW2 : Wd D S0 (XW cs a u sg ((ol, la cs f) :: Y)) s.heap := XW.push hW
  have hF2 : XF cs ea u sg ((ol, la cs f) :: Y) := hF.more (fun q9 h9 => List.mem_cons_of_mem _ h9)
  refine z_cmI (va_runV (As := [.int p0, .int p1, .int p2]) (rest := [.int (nI 0), .ref ol]) ⟨hx, hb, hml, hown, hts⟩ hM (cwV 3 hts gL_weakSum_X2_weakSum rfl rfl rfl (by decide +kernel) ⟨Nat.le_of_ble_eq_true rfl, Nat.le_of_ble_eq_true rfl⟩) ⟨zE_blind, z_recv hK (hW2.1 0 _ rfl) rfl, zE_pre hW2 hK hE hS⟩ rfl rfl hl.1 rfl (lv_room (Nat.le_of_ble_eq_true rfl)) dL_weakSum_7 ⟨Nat.le_of_ble_eq_true rfl, Nat.le_of_ble_eq_true rfl⟩) hS (fun r v H locs hu hW hS => ?_)
  obtain ⟨hu1, hu2⟩ := hu
  rw [hu1]
  have hW := XW.pull hW
  have hF3 : XF cs ea v.1 τ (v.2 ++ Y) := hu2.sel (sel_drop (A := [(ol, la cs f)]) (fun q9 h9 => by rw [List.mem_singleton.mp h9]; exact okE_la))
  have hW : Wd D S0 ((ol, la cs f) :: XW cs a v.1 τ (v.2 ++ Y)) H := hW
  refine lv_i2l (v := R9.toInt64) hx hb dL_weakSum_10 rfl ?_
  refine z_last hx hb hK hW hS dL_weakSum_11 (fun H locs g9 hg9 hW hS => ?_)
  have hW : Wd D S0 ((ol, la cs g9) :: XW cs a v.1 τ (v.2 ++ Y)) H := hW
  refine lv_goto (tgt := 23) hx hb dL_weakSum_12 (by decide) ?_
  refine lv_iconst (v := nI 0) hx hb dL_weakSum_23 (by decide) ?_
  refine W.widen (k := 5) (n := 1607) (by omega) (by omega) ?_
  exact W.iret (v := nI 0) hx hb hr (fun t ht hW9 => ⟨⟨_, (v.1, v.2, g9), rfl, ⟨rfl, fun _ => hg9, hF3⟩, (by show Wd D S0 _ _; rw [ht]; exact hW)⟩, hS.F ht⟩) (fun q9 h9 => hS.2.2 q9 h9) dL_weakSum_24

set_option maxHeartbeats 4000000 in
set_option maxRecDepth 100000 in
theorem h_weakSum_IO (l : Launch) (D : va_G) (cs : Nat → ClassId) (S0 ea mi : Nat) (sa : Nat → Nat) (Y : va_W) (a : Nat → Nat) (u : XU) (sg : St) (hF : XF cs ea u sg Y) (ol : Nat) (f : Nat → Int64) (p0 : Int32) (p1 : Int32) (p2 : Int32) (R9 : Int64) (hM : vT l yX2_weakSum wsX2_weakSum RmT (zE [.ref (a 0), .int p0, .int p1, .int p2] (fun H => XH D cs a u sg H) D cs S0 ea mi sa) eIO) : hOK l D cs S0 ea mi sa Y a u sg ol f yL_weakSum wsL_weakSum [.ref (a 0), .int p0, .int p1, .int p2, .ref ol] 1 R9 sg := by
  refine z_ofWH (cc := cL_weakSum) (maxL := 6) (ret := (some .int)) (hh := [(0, 12, 15, 25), (0, 12, 19, 13)]) (by decide) rfl ?_
  intro p e s m args below meth c s₁ B hml hv
  obtain ⟨⟨rfl, hW, hK, hE⟩, hN⟩ := hv
  have hx := B.exec
  have hb := B.bytes
  have hr := B.returns
  have hts := atoms_spec (ws := wsL_weakSum) B.pre
  have hown : s.vm.findClass RL = some m.cls := findClass_of_methodNamed B.named
  have hlocks := B.notSynchronized
  have htab : c.exceptionTable.toList = tableOf [(0, 12, 15, 25), (0, 12, 19, 13)] := vx_table (x := yL_weakSum) B (hts _ List.mem_cons_self)
  have hRc : (headSpec wsL_weakSum RmH).room.cells = 5 := rfl
  have hRs : (headSpec wsL_weakSum RmH).room.slots = 1607 := rfl
  have hW : Wd D S0 ((ol, la cs f) :: XW cs a u sg Y) s.heap := hW
  have hS : va_S (SA S0) s.heap s.heap [] := va_S.rf
  have hl := lv_entry ([.ref (a 0), .int p0, .int p1, .int p2, .ref ol]) (n := 6) (Nat.le_of_ble_eq_true rfl)
  rw [lg_entry_eq]
  generalize (lg_sl ([.ref (a 0), .int p0, .int p1, .int p2, .ref ol]) ++ List.replicate (6 - (lg_sl ([.ref (a 0), .int p0, .int p1, .int p2, .ref ol])).length) Slot.unset).toArray = ls at hl ⊢
  have hl : lv_has ls 6 [(0, .ref (a 0)), (1, .int p0), (2, .int p1), (3, .int p2), (4, .ref ol)] := hl
  refine lv_aload hx hb dL_weakSum_0 (lv_at hl 4 rfl) ?_
  refine lv_iconst (v := nI 0) hx hb dL_weakSum_2 (by decide) ?_
  refine lv_aload_n hx hb dL_weakSum_3 rfl (lv_at hl 0 rfl) ?_
  refine lv_iload_n hx hb dL_weakSum_4 rfl (lv_at hl 1 rfl) ?_
  refine lv_iload_n hx hb dL_weakSum_5 rfl (lv_at hl 2 rfl) ?_
  refine lv_iload_n hx hb dL_weakSum_6 rfl (lv_at hl 3 rfl) ?_
  have hW2 : Wd D S0 (XW cs a u sg ((ol, la cs f) :: Y)) s.heap := XW.push hW
  have hF2 : XF cs ea u sg ((ol, la cs f) :: Y) := hF.more (fun q9 h9 => List.mem_cons_of_mem _ h9)
  have hPH2 := XH.of (D := D) hW2 hF2
  refine z_cat (vx_runV (As := [.int p0, .int p1, .int p2]) (rest := [.int (nI 0), .ref ol]) ⟨hx, hb, hml, hown, hts⟩ hM (cwV 3 hts gL_weakSum_X2_weakSum rfl rfl rfl (by decide +kernel) ⟨Nat.le_of_ble_eq_true rfl, Nat.le_of_ble_eq_true rfl⟩) ⟨zE_blind, z_recv hK (hW2.1 0 _ rfl) rfl, zE_pre hPH2 hK hE va_S.rf⟩ rfl rfl hl.1 rfl (lv_room (Nat.le_of_ble_eq_true rfl)) dL_weakSum_7 ⟨Nat.le_of_ble_eq_true rfl, Nat.le_of_ble_eq_true rfl⟩) (fun H q8 ce hz9 hk9 hq1 hq2 hq3 => ?_)
  have hW : Wd D S0 ((ol, la cs f) :: XW cs a u sg Y) H := hW.kept hz9 hk9
  have hS : va_S (SA S0) s.heap H [] := ⟨hz9, fun q9 h9 _ => hk9 q9 h9, fun q9 h9 => absurd h9 List.not_mem_nil⟩
  refine vx_catch (name := eIO) hown [] ⟨0, 12, 15, 25⟩ [⟨0, 12, 19, 13⟩] htab (fun z9 h9 => absurd h9 List.not_mem_nil) (by decide) (by decide) (hts (.classLink RL 25 eIO) (by decide +kernel)) (va_Nw.use rfl (hE.2.2.2.2.1 (eIO, eIO) (by decide))) hq1 hq2 hq3 ?_
  refine lv_astore (lv' := [(5, .ref q8), (0, .ref (a 0)), (1, .int p0), (2, .int p1), (3, .int p2), (4, .ref ol)]) hx hb dL_weakSum_15 hl (by decide) rfl (fun ls hl => ?_)
  refine lv_iconst (v := nI 1) hx hb dL_weakSum_17 (by decide) ?_
  refine W.widen (k := 5) (n := 1607) (by omega) (by omega) ?_
  exact W.iret (v := nI 1) hx hb hr (fun t ht hW9 => ⟨⟨_, (u, [], f), rfl, ⟨rfl, fun h9 => absurd h9 (by decide), hF⟩, (by show Wd D S0 _ _; rw [ht]; exact hW)⟩, hS.F ht⟩) (fun q9 h9 => hS.2.2 q9 h9) dL_weakSum_18

set_option maxHeartbeats 4000000 in
set_option maxRecDepth 100000 in
theorem h_weakSum_IA (l : Launch) (D : va_G) (cs : Nat → ClassId) (S0 ea mi : Nat) (sa : Nat → Nat) (Y : va_W) (a : Nat → Nat) (u : XU) (sg : St) (hF : XF cs ea u sg Y) (ol : Nat) (f : Nat → Int64) (p0 : Int32) (p1 : Int32) (p2 : Int32) (R9 : Int64) (hM : vT l yX2_weakSum wsX2_weakSum RmT (zE [.ref (a 0), .int p0, .int p1, .int p2] (fun H => XH D cs a u sg H) D cs S0 ea mi sa) eIA) : hOK l D cs S0 ea mi sa Y a u sg ol f yL_weakSum wsL_weakSum [.ref (a 0), .int p0, .int p1, .int p2, .ref ol] 2 R9 sg := by
  refine z_ofWH (cc := cL_weakSum) (maxL := 6) (ret := (some .int)) (hh := [(0, 12, 15, 25), (0, 12, 19, 13)]) (by decide) rfl ?_
  intro p e s m args below meth c s₁ B hml hv
  obtain ⟨⟨rfl, hW, hK, hE⟩, hN⟩ := hv
  have hx := B.exec
  have hb := B.bytes
  have hr := B.returns
  have hts := atoms_spec (ws := wsL_weakSum) B.pre
  have hown : s.vm.findClass RL = some m.cls := findClass_of_methodNamed B.named
  have hlocks := B.notSynchronized
  have htab : c.exceptionTable.toList = tableOf [(0, 12, 15, 25), (0, 12, 19, 13)] := vx_table (x := yL_weakSum) B (hts _ List.mem_cons_self)
  have hRc : (headSpec wsL_weakSum RmH).room.cells = 5 := rfl
  have hRs : (headSpec wsL_weakSum RmH).room.slots = 1607 := rfl
  have hW : Wd D S0 ((ol, la cs f) :: XW cs a u sg Y) s.heap := hW
  have hS : va_S (SA S0) s.heap s.heap [] := va_S.rf
  have hl := lv_entry ([.ref (a 0), .int p0, .int p1, .int p2, .ref ol]) (n := 6) (Nat.le_of_ble_eq_true rfl)
  rw [lg_entry_eq]
  generalize (lg_sl ([.ref (a 0), .int p0, .int p1, .int p2, .ref ol]) ++ List.replicate (6 - (lg_sl ([.ref (a 0), .int p0, .int p1, .int p2, .ref ol])).length) Slot.unset).toArray = ls at hl ⊢
  have hl : lv_has ls 6 [(0, .ref (a 0)), (1, .int p0), (2, .int p1), (3, .int p2), (4, .ref ol)] := hl
  refine lv_aload hx hb dL_weakSum_0 (lv_at hl 4 rfl) ?_
  refine lv_iconst (v := nI 0) hx hb dL_weakSum_2 (by decide) ?_
  refine lv_aload_n hx hb dL_weakSum_3 rfl (lv_at hl 0 rfl) ?_
  refine lv_iload_n hx hb dL_weakSum_4 rfl (lv_at hl 1 rfl) ?_
  refine lv_iload_n hx hb dL_weakSum_5 rfl (lv_at hl 2 rfl) ?_
  refine lv_iload_n hx hb dL_weakSum_6 rfl (lv_at hl 3 rfl) ?_
  have hW2 : Wd D S0 (XW cs a u sg ((ol, la cs f) :: Y)) s.heap := XW.push hW
  have hF2 : XF cs ea u sg ((ol, la cs f) :: Y) := hF.more (fun q9 h9 => List.mem_cons_of_mem _ h9)
  have hPH2 := XH.of (D := D) hW2 hF2
  refine z_cat (vx_runV (As := [.int p0, .int p1, .int p2]) (rest := [.int (nI 0), .ref ol]) ⟨hx, hb, hml, hown, hts⟩ hM (cwV 3 hts gL_weakSum_X2_weakSum rfl rfl rfl (by decide +kernel) ⟨Nat.le_of_ble_eq_true rfl, Nat.le_of_ble_eq_true rfl⟩) ⟨zE_blind, z_recv hK (hW2.1 0 _ rfl) rfl, zE_pre hPH2 hK hE va_S.rf⟩ rfl rfl hl.1 rfl (lv_room (Nat.le_of_ble_eq_true rfl)) dL_weakSum_7 ⟨Nat.le_of_ble_eq_true rfl, Nat.le_of_ble_eq_true rfl⟩) (fun H q8 ce hz9 hk9 hq1 hq2 hq3 => ?_)
  have hW : Wd D S0 ((ol, la cs f) :: XW cs a u sg Y) H := hW.kept hz9 hk9
  have hS : va_S (SA S0) s.heap H [] := ⟨hz9, fun q9 h9 _ => hk9 q9 h9, fun q9 h9 => absurd h9 List.not_mem_nil⟩
  refine vx_catch (name := eIA) hown [⟨0, 12, 15, 25⟩] ⟨0, 12, 19, 13⟩ [] htab (fun z9 h9 => by
      rw [List.mem_singleton.mp h9]
      exact Or.inr ⟨by decide, eIO, hts (.classLink RL 25 eIO) (by decide +kernel), hN.1⟩) (by decide) (by decide) (hts (.classLink RL 13 eIA) (by decide +kernel)) (va_Nw.use rfl (hE.2.2.2.2.1 (eIA, eIA) (by decide))) hq1 hq2 hq3 ?_
  refine lv_astore (lv' := [(5, .ref q8), (0, .ref (a 0)), (1, .int p0), (2, .int p1), (3, .int p2), (4, .ref ol)]) hx hb dL_weakSum_19 hl (by decide) rfl (fun ls hl => ?_)
  refine lv_iconst (v := nI 2) hx hb dL_weakSum_21 (by decide) ?_
  refine W.widen (k := 5) (n := 1607) (by omega) (by omega) ?_
  exact W.iret (v := nI 2) hx hb hr (fun t ht hW9 => ⟨⟨_, (u, [], f), rfl, ⟨rfl, fun h9 => absurd h9 (by decide), hF⟩, (by show Wd D S0 _ _; rw [ht]; exact hW)⟩, hS.F ht⟩) (fun q9 h9 => hS.2.2 q9 h9) dL_weakSum_22

set_option maxHeartbeats 4000000 in
set_option maxRecDepth 100000 in
theorem h_collisions_ok (l : Launch) (D : va_G) (cs : Nat → ClassId) (S0 ea mi : Nat) (sa : Nat → Nat) (Y : va_W) (a : Nat → Nat) (u : XU) (sg : St) (hF : XF cs ea u sg Y) (ol : Nat) (f : Nat → Int64) (p0 : Int32) (p1 : Int32) (R9 : Int32) (τ : St) (hM : xOK l D cs S0 ea mi sa ((ol, la cs f) :: Y) a u sg yX2_collisions wsX2_collisions [.ref (a 0), .int p0, .int p1] R9 τ) : hOK l D cs S0 ea mi sa Y a u sg ol f yL_collisions wsL_collisions [.ref (a 0), .int p0, .int p1, .ref ol] 0 R9.toInt64 τ := by
  refine z_ofWH (cc := cL_collisions) (maxL := 5) (ret := (some .int)) (hh := [(0, 10, 13, 25), (0, 10, 17, 13)]) (by decide) rfl ?_
  intro p e s m args below meth c s₁ B hml hv
  obtain ⟨⟨rfl, hW, hK, hE⟩, hN⟩ := hv
  have hx := B.exec
  have hb := B.bytes
  have hr := B.returns
  have hts := atoms_spec (ws := wsL_collisions) B.pre
  have hown : s.vm.findClass RL = some m.cls := findClass_of_methodNamed B.named
  have hlocks := B.notSynchronized
  have hRc : (headSpec wsL_collisions RmH).room.cells = 5 := rfl
  have hRs : (headSpec wsL_collisions RmH).room.slots = 1607 := rfl
  have hW : Wd D S0 ((ol, la cs f) :: XW cs a u sg Y) s.heap := hW
  have hS : va_S (SA S0) s.heap s.heap [] := va_S.rf
  have hl := lv_entry ([.ref (a 0), .int p0, .int p1, .ref ol]) (n := 5) (Nat.le_of_ble_eq_true rfl)
  rw [lg_entry_eq]
  generalize (lg_sl ([.ref (a 0), .int p0, .int p1, .ref ol]) ++ List.replicate (5 - (lg_sl ([.ref (a 0), .int p0, .int p1, .ref ol])).length) Slot.unset).toArray = ls at hl ⊢
  have hl : lv_has ls 5 [(0, .ref (a 0)), (1, .int p0), (2, .int p1), (3, .ref ol)] := hl
  refine lv_aload_n hx hb dL_collisions_0 rfl (lv_at hl 3 rfl) ?_
  refine lv_iconst (v := nI 0) hx hb dL_collisions_1 (by decide) ?_
  refine lv_aload_n hx hb dL_collisions_2 rfl (lv_at hl 0 rfl) ?_
  refine lv_iload_n hx hb dL_collisions_3 rfl (lv_at hl 1 rfl) ?_
  refine lv_iload_n hx hb dL_collisions_4 rfl (lv_at hl 2 rfl) ?_
  have hW2 : Wd D S0 (XW cs a u sg ((ol, la cs f) :: Y)) s.heap := XW.push hW
  have hF2 : XF cs ea u sg ((ol, la cs f) :: Y) := hF.more (fun q9 h9 => List.mem_cons_of_mem _ h9)
  refine z_cmI (va_runV (As := [.int p0, .int p1]) (rest := [.int (nI 0), .ref ol]) ⟨hx, hb, hml, hown, hts⟩ hM (cwV 2 hts gL_collisions_X2_collisions rfl rfl rfl (by decide +kernel) ⟨Nat.le_of_ble_eq_true rfl, Nat.le_of_ble_eq_true rfl⟩) ⟨zE_blind, z_recv hK (hW2.1 0 _ rfl) rfl, zE_pre hW2 hK hE hS⟩ rfl rfl hl.1 rfl (lv_room (Nat.le_of_ble_eq_true rfl)) dL_collisions_5 ⟨Nat.le_of_ble_eq_true rfl, Nat.le_of_ble_eq_true rfl⟩) hS (fun r v H locs hu hW hS => ?_)
  obtain ⟨hu1, hu2⟩ := hu
  rw [hu1]
  have hW := XW.pull hW
  have hF3 : XF cs ea v.1 τ (v.2 ++ Y) := hu2.sel (sel_drop (A := [(ol, la cs f)]) (fun q9 h9 => by rw [List.mem_singleton.mp h9]; exact okE_la))
  have hW : Wd D S0 ((ol, la cs f) :: XW cs a v.1 τ (v.2 ++ Y)) H := hW
  refine lv_i2l (v := R9.toInt64) hx hb dL_collisions_8 rfl ?_
  refine z_last hx hb hK hW hS dL_collisions_9 (fun H locs g9 hg9 hW hS => ?_)
  have hW : Wd D S0 ((ol, la cs g9) :: XW cs a v.1 τ (v.2 ++ Y)) H := hW
  refine lv_goto (tgt := 21) hx hb dL_collisions_10 (by decide) ?_
  refine lv_iconst (v := nI 0) hx hb dL_collisions_21 (by decide) ?_
  refine W.widen (k := 5) (n := 1607) (by omega) (by omega) ?_
  exact W.iret (v := nI 0) hx hb hr (fun t ht hW9 => ⟨⟨_, (v.1, v.2, g9), rfl, ⟨rfl, fun _ => hg9, hF3⟩, (by show Wd D S0 _ _; rw [ht]; exact hW)⟩, hS.F ht⟩) (fun q9 h9 => hS.2.2 q9 h9) dL_collisions_22

set_option maxHeartbeats 4000000 in
set_option maxRecDepth 100000 in
theorem h_collisions_IO (l : Launch) (D : va_G) (cs : Nat → ClassId) (S0 ea mi : Nat) (sa : Nat → Nat) (Y : va_W) (a : Nat → Nat) (u : XU) (sg : St) (hF : XF cs ea u sg Y) (ol : Nat) (f : Nat → Int64) (p0 : Int32) (p1 : Int32) (R9 : Int64) (hM : vT l yX2_collisions wsX2_collisions RmT (zE [.ref (a 0), .int p0, .int p1] (fun H => XH D cs a u sg H) D cs S0 ea mi sa) eIO) : hOK l D cs S0 ea mi sa Y a u sg ol f yL_collisions wsL_collisions [.ref (a 0), .int p0, .int p1, .ref ol] 1 R9 sg := by
  refine z_ofWH (cc := cL_collisions) (maxL := 5) (ret := (some .int)) (hh := [(0, 10, 13, 25), (0, 10, 17, 13)]) (by decide) rfl ?_
  intro p e s m args below meth c s₁ B hml hv
  obtain ⟨⟨rfl, hW, hK, hE⟩, hN⟩ := hv
  have hx := B.exec
  have hb := B.bytes
  have hr := B.returns
  have hts := atoms_spec (ws := wsL_collisions) B.pre
  have hown : s.vm.findClass RL = some m.cls := findClass_of_methodNamed B.named
  have hlocks := B.notSynchronized
  have htab : c.exceptionTable.toList = tableOf [(0, 10, 13, 25), (0, 10, 17, 13)] := vx_table (x := yL_collisions) B (hts _ List.mem_cons_self)
  have hRc : (headSpec wsL_collisions RmH).room.cells = 5 := rfl
  have hRs : (headSpec wsL_collisions RmH).room.slots = 1607 := rfl
  have hW : Wd D S0 ((ol, la cs f) :: XW cs a u sg Y) s.heap := hW
  have hS : va_S (SA S0) s.heap s.heap [] := va_S.rf
  have hl := lv_entry ([.ref (a 0), .int p0, .int p1, .ref ol]) (n := 5) (Nat.le_of_ble_eq_true rfl)
  rw [lg_entry_eq]
  generalize (lg_sl ([.ref (a 0), .int p0, .int p1, .ref ol]) ++ List.replicate (5 - (lg_sl ([.ref (a 0), .int p0, .int p1, .ref ol])).length) Slot.unset).toArray = ls at hl ⊢
  have hl : lv_has ls 5 [(0, .ref (a 0)), (1, .int p0), (2, .int p1), (3, .ref ol)] := hl
  refine lv_aload_n hx hb dL_collisions_0 rfl (lv_at hl 3 rfl) ?_
  refine lv_iconst (v := nI 0) hx hb dL_collisions_1 (by decide) ?_
  refine lv_aload_n hx hb dL_collisions_2 rfl (lv_at hl 0 rfl) ?_
  refine lv_iload_n hx hb dL_collisions_3 rfl (lv_at hl 1 rfl) ?_
  refine lv_iload_n hx hb dL_collisions_4 rfl (lv_at hl 2 rfl) ?_
  have hW2 : Wd D S0 (XW cs a u sg ((ol, la cs f) :: Y)) s.heap := XW.push hW
  have hF2 : XF cs ea u sg ((ol, la cs f) :: Y) := hF.more (fun q9 h9 => List.mem_cons_of_mem _ h9)
  have hPH2 := XH.of (D := D) hW2 hF2
  refine z_cat (vx_runV (As := [.int p0, .int p1]) (rest := [.int (nI 0), .ref ol]) ⟨hx, hb, hml, hown, hts⟩ hM (cwV 2 hts gL_collisions_X2_collisions rfl rfl rfl (by decide +kernel) ⟨Nat.le_of_ble_eq_true rfl, Nat.le_of_ble_eq_true rfl⟩) ⟨zE_blind, z_recv hK (hW2.1 0 _ rfl) rfl, zE_pre hPH2 hK hE va_S.rf⟩ rfl rfl hl.1 rfl (lv_room (Nat.le_of_ble_eq_true rfl)) dL_collisions_5 ⟨Nat.le_of_ble_eq_true rfl, Nat.le_of_ble_eq_true rfl⟩) (fun H q8 ce hz9 hk9 hq1 hq2 hq3 => ?_)
  have hW : Wd D S0 ((ol, la cs f) :: XW cs a u sg Y) H := hW.kept hz9 hk9
  have hS : va_S (SA S0) s.heap H [] := ⟨hz9, fun q9 h9 _ => hk9 q9 h9, fun q9 h9 => absurd h9 List.not_mem_nil⟩
  refine vx_catch (name := eIO) hown [] ⟨0, 10, 13, 25⟩ [⟨0, 10, 17, 13⟩] htab (fun z9 h9 => absurd h9 List.not_mem_nil) (by decide) (by decide) (hts (.classLink RL 25 eIO) (by decide +kernel)) (va_Nw.use rfl (hE.2.2.2.2.1 (eIO, eIO) (by decide))) hq1 hq2 hq3 ?_
  refine lv_astore (lv' := [(4, .ref q8), (0, .ref (a 0)), (1, .int p0), (2, .int p1), (3, .ref ol)]) hx hb dL_collisions_13 hl (by decide) rfl (fun ls hl => ?_)
  refine lv_iconst (v := nI 1) hx hb dL_collisions_15 (by decide) ?_
  refine W.widen (k := 5) (n := 1607) (by omega) (by omega) ?_
  exact W.iret (v := nI 1) hx hb hr (fun t ht hW9 => ⟨⟨_, (u, [], f), rfl, ⟨rfl, fun h9 => absurd h9 (by decide), hF⟩, (by show Wd D S0 _ _; rw [ht]; exact hW)⟩, hS.F ht⟩) (fun q9 h9 => hS.2.2 q9 h9) dL_collisions_16

set_option maxHeartbeats 4000000 in
set_option maxRecDepth 100000 in
theorem h_collisions_IA (l : Launch) (D : va_G) (cs : Nat → ClassId) (S0 ea mi : Nat) (sa : Nat → Nat) (Y : va_W) (a : Nat → Nat) (u : XU) (sg : St) (hF : XF cs ea u sg Y) (ol : Nat) (f : Nat → Int64) (p0 : Int32) (p1 : Int32) (R9 : Int64) (hM : vT l yX2_collisions wsX2_collisions RmT (zE [.ref (a 0), .int p0, .int p1] (fun H => XH D cs a u sg H) D cs S0 ea mi sa) eIA) : hOK l D cs S0 ea mi sa Y a u sg ol f yL_collisions wsL_collisions [.ref (a 0), .int p0, .int p1, .ref ol] 2 R9 sg := by
  refine z_ofWH (cc := cL_collisions) (maxL := 5) (ret := (some .int)) (hh := [(0, 10, 13, 25), (0, 10, 17, 13)]) (by decide) rfl ?_
  intro p e s m args below meth c s₁ B hml hv
  obtain ⟨⟨rfl, hW, hK, hE⟩, hN⟩ := hv
  have hx := B.exec
  have hb := B.bytes
  have hr := B.returns
  have hts := atoms_spec (ws := wsL_collisions) B.pre
  have hown : s.vm.findClass RL = some m.cls := findClass_of_methodNamed B.named
  have hlocks := B.notSynchronized
  have htab : c.exceptionTable.toList = tableOf [(0, 10, 13, 25), (0, 10, 17, 13)] := vx_table (x := yL_collisions) B (hts _ List.mem_cons_self)
  have hRc : (headSpec wsL_collisions RmH).room.cells = 5 := rfl
  have hRs : (headSpec wsL_collisions RmH).room.slots = 1607 := rfl
  have hW : Wd D S0 ((ol, la cs f) :: XW cs a u sg Y) s.heap := hW
  have hS : va_S (SA S0) s.heap s.heap [] := va_S.rf
  have hl := lv_entry ([.ref (a 0), .int p0, .int p1, .ref ol]) (n := 5) (Nat.le_of_ble_eq_true rfl)
  rw [lg_entry_eq]
  generalize (lg_sl ([.ref (a 0), .int p0, .int p1, .ref ol]) ++ List.replicate (5 - (lg_sl ([.ref (a 0), .int p0, .int p1, .ref ol])).length) Slot.unset).toArray = ls at hl ⊢
  have hl : lv_has ls 5 [(0, .ref (a 0)), (1, .int p0), (2, .int p1), (3, .ref ol)] := hl
  refine lv_aload_n hx hb dL_collisions_0 rfl (lv_at hl 3 rfl) ?_
  refine lv_iconst (v := nI 0) hx hb dL_collisions_1 (by decide) ?_
  refine lv_aload_n hx hb dL_collisions_2 rfl (lv_at hl 0 rfl) ?_
  refine lv_iload_n hx hb dL_collisions_3 rfl (lv_at hl 1 rfl) ?_
  refine lv_iload_n hx hb dL_collisions_4 rfl (lv_at hl 2 rfl) ?_
  have hW2 : Wd D S0 (XW cs a u sg ((ol, la cs f) :: Y)) s.heap := XW.push hW
  have hF2 : XF cs ea u sg ((ol, la cs f) :: Y) := hF.more (fun q9 h9 => List.mem_cons_of_mem _ h9)
  have hPH2 := XH.of (D := D) hW2 hF2
  refine z_cat (vx_runV (As := [.int p0, .int p1]) (rest := [.int (nI 0), .ref ol]) ⟨hx, hb, hml, hown, hts⟩ hM (cwV 2 hts gL_collisions_X2_collisions rfl rfl rfl (by decide +kernel) ⟨Nat.le_of_ble_eq_true rfl, Nat.le_of_ble_eq_true rfl⟩) ⟨zE_blind, z_recv hK (hW2.1 0 _ rfl) rfl, zE_pre hPH2 hK hE va_S.rf⟩ rfl rfl hl.1 rfl (lv_room (Nat.le_of_ble_eq_true rfl)) dL_collisions_5 ⟨Nat.le_of_ble_eq_true rfl, Nat.le_of_ble_eq_true rfl⟩) (fun H q8 ce hz9 hk9 hq1 hq2 hq3 => ?_)
  have hW : Wd D S0 ((ol, la cs f) :: XW cs a u sg Y) H := hW.kept hz9 hk9
  have hS : va_S (SA S0) s.heap H [] := ⟨hz9, fun q9 h9 _ => hk9 q9 h9, fun q9 h9 => absurd h9 List.not_mem_nil⟩
  refine vx_catch (name := eIA) hown [⟨0, 10, 13, 25⟩] ⟨0, 10, 17, 13⟩ [] htab (fun z9 h9 => by
      rw [List.mem_singleton.mp h9]
      exact Or.inr ⟨by decide, eIO, hts (.classLink RL 25 eIO) (by decide +kernel), hN.1⟩) (by decide) (by decide) (hts (.classLink RL 13 eIA) (by decide +kernel)) (va_Nw.use rfl (hE.2.2.2.2.1 (eIA, eIA) (by decide))) hq1 hq2 hq3 ?_
  refine lv_astore (lv' := [(4, .ref q8), (0, .ref (a 0)), (1, .int p0), (2, .int p1), (3, .ref ol)]) hx hb dL_collisions_17 hl (by decide) rfl (fun ls hl => ?_)
  refine lv_iconst (v := nI 2) hx hb dL_collisions_19 (by decide) ?_
  refine W.widen (k := 5) (n := 1607) (by omega) (by omega) ?_
  exact W.iret (v := nI 2) hx hb hr (fun t ht hW9 => ⟨⟨_, (u, [], f), rfl, ⟨rfl, fun h9 => absurd h9 (by decide), hF⟩, (by show Wd D S0 _ _; rw [ht]; exact hW)⟩, hS.F ht⟩) (fun q9 h9 => hS.2.2 q9 h9) dL_collisions_20

set_option maxHeartbeats 4000000 in
set_option maxRecDepth 100000 in
theorem h_differentBlocks_ok (l : Launch) (D : va_G) (cs : Nat → ClassId) (S0 ea mi : Nat) (sa : Nat → Nat) (Y : va_W) (a : Nat → Nat) (u : XU) (sg : St) (hF : XF cs ea u sg Y) (ol : Nat) (f : Nat → Int64) (p0 : Int32) (p1 : Int32) (R9 : Int32) (τ : St) (hM : xOK l D cs S0 ea mi sa ((ol, la cs f) :: Y) a u sg yX2_differentBlocks wsX2_differentBlocks [.ref (a 0), .int p0, .int p1] R9 τ) : hOK l D cs S0 ea mi sa Y a u sg ol f yL_differentBlocks wsL_differentBlocks [.ref (a 0), .int p0, .int p1, .ref ol] 0 R9.toInt64 τ := by
  refine z_ofWH (cc := cL_differentBlocks) (maxL := 5) (ret := (some .int)) (hh := [(0, 10, 13, 25), (0, 10, 17, 13)]) (by decide) rfl ?_
  intro p e s m args below meth c s₁ B hml hv
  obtain ⟨⟨rfl, hW, hK, hE⟩, hN⟩ := hv
  have hx := B.exec
  have hb := B.bytes
  have hr := B.returns
  have hts := atoms_spec (ws := wsL_differentBlocks) B.pre
  have hown : s.vm.findClass RL = some m.cls := findClass_of_methodNamed B.named
  have hlocks := B.notSynchronized
  have hRc : (headSpec wsL_differentBlocks RmH).room.cells = 5 := rfl
  have hRs : (headSpec wsL_differentBlocks RmH).room.slots = 1607 := rfl
  have hW : Wd D S0 ((ol, la cs f) :: XW cs a u sg Y) s.heap := hW
  have hS : va_S (SA S0) s.heap s.heap [] := va_S.rf
  have hl := lv_entry ([.ref (a 0), .int p0, .int p1, .ref ol]) (n := 5) (Nat.le_of_ble_eq_true rfl)
  rw [lg_entry_eq]
  generalize (lg_sl ([.ref (a 0), .int p0, .int p1, .ref ol]) ++ List.replicate (5 - (lg_sl ([.ref (a 0), .int p0, .int p1, .ref ol])).length) Slot.unset).toArray = ls at hl ⊢
  have hl : lv_has ls 5 [(0, .ref (a 0)), (1, .int p0), (2, .int p1), (3, .ref ol)] := hl
  refine lv_aload_n hx hb dL_differentBlocks_0 rfl (lv_at hl 3 rfl) ?_
  refine lv_iconst (v := nI 0) hx hb dL_differentBlocks_1 (by decide) ?_
  refine lv_aload_n hx hb dL_differentBlocks_2 rfl (lv_at hl 0 rfl) ?_
  refine lv_iload_n hx hb dL_differentBlocks_3 rfl (lv_at hl 1 rfl) ?_
  refine lv_iload_n hx hb dL_differentBlocks_4 rfl (lv_at hl 2 rfl) ?_
  have hW2 : Wd D S0 (XW cs a u sg ((ol, la cs f) :: Y)) s.heap := XW.push hW
  have hF2 : XF cs ea u sg ((ol, la cs f) :: Y) := hF.more (fun q9 h9 => List.mem_cons_of_mem _ h9)
  refine z_cmI (va_runV (As := [.int p0, .int p1]) (rest := [.int (nI 0), .ref ol]) ⟨hx, hb, hml, hown, hts⟩ hM (cwV 2 hts gL_differentBlocks_X2_differentBlocks rfl rfl rfl (by decide +kernel) ⟨Nat.le_of_ble_eq_true rfl, Nat.le_of_ble_eq_true rfl⟩) ⟨zE_blind, z_recv hK (hW2.1 0 _ rfl) rfl, zE_pre hW2 hK hE hS⟩ rfl rfl hl.1 rfl (lv_room (Nat.le_of_ble_eq_true rfl)) dL_differentBlocks_5 ⟨Nat.le_of_ble_eq_true rfl, Nat.le_of_ble_eq_true rfl⟩) hS (fun r v H locs hu hW hS => ?_)
  obtain ⟨hu1, hu2⟩ := hu
  rw [hu1]
  have hW := XW.pull hW
  have hF3 : XF cs ea v.1 τ (v.2 ++ Y) := hu2.sel (sel_drop (A := [(ol, la cs f)]) (fun q9 h9 => by rw [List.mem_singleton.mp h9]; exact okE_la))
  have hW : Wd D S0 ((ol, la cs f) :: XW cs a v.1 τ (v.2 ++ Y)) H := hW
  refine lv_i2l (v := R9.toInt64) hx hb dL_differentBlocks_8 rfl ?_
  refine z_last hx hb hK hW hS dL_differentBlocks_9 (fun H locs g9 hg9 hW hS => ?_)
  have hW : Wd D S0 ((ol, la cs g9) :: XW cs a v.1 τ (v.2 ++ Y)) H := hW
  refine lv_goto (tgt := 21) hx hb dL_differentBlocks_10 (by decide) ?_
  refine lv_iconst (v := nI 0) hx hb dL_differentBlocks_21 (by decide) ?_
  refine W.widen (k := 5) (n := 1607) (by omega) (by omega) ?_
  exact W.iret (v := nI 0) hx hb hr (fun t ht hW9 => ⟨⟨_, (v.1, v.2, g9), rfl, ⟨rfl, fun _ => hg9, hF3⟩, (by show Wd D S0 _ _; rw [ht]; exact hW)⟩, hS.F ht⟩) (fun q9 h9 => hS.2.2 q9 h9) dL_differentBlocks_22

set_option maxHeartbeats 4000000 in
set_option maxRecDepth 100000 in
theorem h_differentBlocks_IO (l : Launch) (D : va_G) (cs : Nat → ClassId) (S0 ea mi : Nat) (sa : Nat → Nat) (Y : va_W) (a : Nat → Nat) (u : XU) (sg : St) (hF : XF cs ea u sg Y) (ol : Nat) (f : Nat → Int64) (p0 : Int32) (p1 : Int32) (R9 : Int64) (hM : vT l yX2_differentBlocks wsX2_differentBlocks RmT (zE [.ref (a 0), .int p0, .int p1] (fun H => XH D cs a u sg H) D cs S0 ea mi sa) eIO) : hOK l D cs S0 ea mi sa Y a u sg ol f yL_differentBlocks wsL_differentBlocks [.ref (a 0), .int p0, .int p1, .ref ol] 1 R9 sg := by
  refine z_ofWH (cc := cL_differentBlocks) (maxL := 5) (ret := (some .int)) (hh := [(0, 10, 13, 25), (0, 10, 17, 13)]) (by decide) rfl ?_
  intro p e s m args below meth c s₁ B hml hv
  obtain ⟨⟨rfl, hW, hK, hE⟩, hN⟩ := hv
  have hx := B.exec
  have hb := B.bytes
  have hr := B.returns
  have hts := atoms_spec (ws := wsL_differentBlocks) B.pre
  have hown : s.vm.findClass RL = some m.cls := findClass_of_methodNamed B.named
  have hlocks := B.notSynchronized
  have htab : c.exceptionTable.toList = tableOf [(0, 10, 13, 25), (0, 10, 17, 13)] := vx_table (x := yL_differentBlocks) B (hts _ List.mem_cons_self)
  have hRc : (headSpec wsL_differentBlocks RmH).room.cells = 5 := rfl
  have hRs : (headSpec wsL_differentBlocks RmH).room.slots = 1607 := rfl
  have hW : Wd D S0 ((ol, la cs f) :: XW cs a u sg Y) s.heap := hW
  have hS : va_S (SA S0) s.heap s.heap [] := va_S.rf
  have hl := lv_entry ([.ref (a 0), .int p0, .int p1, .ref ol]) (n := 5) (Nat.le_of_ble_eq_true rfl)
  rw [lg_entry_eq]
  generalize (lg_sl ([.ref (a 0), .int p0, .int p1, .ref ol]) ++ List.replicate (5 - (lg_sl ([.ref (a 0), .int p0, .int p1, .ref ol])).length) Slot.unset).toArray = ls at hl ⊢
  have hl : lv_has ls 5 [(0, .ref (a 0)), (1, .int p0), (2, .int p1), (3, .ref ol)] := hl
  refine lv_aload_n hx hb dL_differentBlocks_0 rfl (lv_at hl 3 rfl) ?_
  refine lv_iconst (v := nI 0) hx hb dL_differentBlocks_1 (by decide) ?_
  refine lv_aload_n hx hb dL_differentBlocks_2 rfl (lv_at hl 0 rfl) ?_
  refine lv_iload_n hx hb dL_differentBlocks_3 rfl (lv_at hl 1 rfl) ?_
  refine lv_iload_n hx hb dL_differentBlocks_4 rfl (lv_at hl 2 rfl) ?_
  have hW2 : Wd D S0 (XW cs a u sg ((ol, la cs f) :: Y)) s.heap := XW.push hW
  have hF2 : XF cs ea u sg ((ol, la cs f) :: Y) := hF.more (fun q9 h9 => List.mem_cons_of_mem _ h9)
  have hPH2 := XH.of (D := D) hW2 hF2
  refine z_cat (vx_runV (As := [.int p0, .int p1]) (rest := [.int (nI 0), .ref ol]) ⟨hx, hb, hml, hown, hts⟩ hM (cwV 2 hts gL_differentBlocks_X2_differentBlocks rfl rfl rfl (by decide +kernel) ⟨Nat.le_of_ble_eq_true rfl, Nat.le_of_ble_eq_true rfl⟩) ⟨zE_blind, z_recv hK (hW2.1 0 _ rfl) rfl, zE_pre hPH2 hK hE va_S.rf⟩ rfl rfl hl.1 rfl (lv_room (Nat.le_of_ble_eq_true rfl)) dL_differentBlocks_5 ⟨Nat.le_of_ble_eq_true rfl, Nat.le_of_ble_eq_true rfl⟩) (fun H q8 ce hz9 hk9 hq1 hq2 hq3 => ?_)
  have hW : Wd D S0 ((ol, la cs f) :: XW cs a u sg Y) H := hW.kept hz9 hk9
  have hS : va_S (SA S0) s.heap H [] := ⟨hz9, fun q9 h9 _ => hk9 q9 h9, fun q9 h9 => absurd h9 List.not_mem_nil⟩
  refine vx_catch (name := eIO) hown [] ⟨0, 10, 13, 25⟩ [⟨0, 10, 17, 13⟩] htab (fun z9 h9 => absurd h9 List.not_mem_nil) (by decide) (by decide) (hts (.classLink RL 25 eIO) (by decide +kernel)) (va_Nw.use rfl (hE.2.2.2.2.1 (eIO, eIO) (by decide))) hq1 hq2 hq3 ?_
  refine lv_astore (lv' := [(4, .ref q8), (0, .ref (a 0)), (1, .int p0), (2, .int p1), (3, .ref ol)]) hx hb dL_differentBlocks_13 hl (by decide) rfl (fun ls hl => ?_)
  refine lv_iconst (v := nI 1) hx hb dL_differentBlocks_15 (by decide) ?_
  refine W.widen (k := 5) (n := 1607) (by omega) (by omega) ?_
  exact W.iret (v := nI 1) hx hb hr (fun t ht hW9 => ⟨⟨_, (u, [], f), rfl, ⟨rfl, fun h9 => absurd h9 (by decide), hF⟩, (by show Wd D S0 _ _; rw [ht]; exact hW)⟩, hS.F ht⟩) (fun q9 h9 => hS.2.2 q9 h9) dL_differentBlocks_16

set_option maxHeartbeats 4000000 in
set_option maxRecDepth 100000 in
theorem h_differentBlocks_IA (l : Launch) (D : va_G) (cs : Nat → ClassId) (S0 ea mi : Nat) (sa : Nat → Nat) (Y : va_W) (a : Nat → Nat) (u : XU) (sg : St) (hF : XF cs ea u sg Y) (ol : Nat) (f : Nat → Int64) (p0 : Int32) (p1 : Int32) (R9 : Int64) (hM : vT l yX2_differentBlocks wsX2_differentBlocks RmT (zE [.ref (a 0), .int p0, .int p1] (fun H => XH D cs a u sg H) D cs S0 ea mi sa) eIA) : hOK l D cs S0 ea mi sa Y a u sg ol f yL_differentBlocks wsL_differentBlocks [.ref (a 0), .int p0, .int p1, .ref ol] 2 R9 sg := by
  refine z_ofWH (cc := cL_differentBlocks) (maxL := 5) (ret := (some .int)) (hh := [(0, 10, 13, 25), (0, 10, 17, 13)]) (by decide) rfl ?_
  intro p e s m args below meth c s₁ B hml hv
  obtain ⟨⟨rfl, hW, hK, hE⟩, hN⟩ := hv
  have hx := B.exec
  have hb := B.bytes
  have hr := B.returns
  have hts := atoms_spec (ws := wsL_differentBlocks) B.pre
  have hown : s.vm.findClass RL = some m.cls := findClass_of_methodNamed B.named
  have hlocks := B.notSynchronized
  have htab : c.exceptionTable.toList = tableOf [(0, 10, 13, 25), (0, 10, 17, 13)] := vx_table (x := yL_differentBlocks) B (hts _ List.mem_cons_self)
  have hRc : (headSpec wsL_differentBlocks RmH).room.cells = 5 := rfl
  have hRs : (headSpec wsL_differentBlocks RmH).room.slots = 1607 := rfl
  have hW : Wd D S0 ((ol, la cs f) :: XW cs a u sg Y) s.heap := hW
  have hS : va_S (SA S0) s.heap s.heap [] := va_S.rf
  have hl := lv_entry ([.ref (a 0), .int p0, .int p1, .ref ol]) (n := 5) (Nat.le_of_ble_eq_true rfl)
  rw [lg_entry_eq]
  generalize (lg_sl ([.ref (a 0), .int p0, .int p1, .ref ol]) ++ List.replicate (5 - (lg_sl ([.ref (a 0), .int p0, .int p1, .ref ol])).length) Slot.unset).toArray = ls at hl ⊢
  have hl : lv_has ls 5 [(0, .ref (a 0)), (1, .int p0), (2, .int p1), (3, .ref ol)] := hl
  refine lv_aload_n hx hb dL_differentBlocks_0 rfl (lv_at hl 3 rfl) ?_
  refine lv_iconst (v := nI 0) hx hb dL_differentBlocks_1 (by decide) ?_
  refine lv_aload_n hx hb dL_differentBlocks_2 rfl (lv_at hl 0 rfl) ?_
  refine lv_iload_n hx hb dL_differentBlocks_3 rfl (lv_at hl 1 rfl) ?_
  refine lv_iload_n hx hb dL_differentBlocks_4 rfl (lv_at hl 2 rfl) ?_
  have hW2 : Wd D S0 (XW cs a u sg ((ol, la cs f) :: Y)) s.heap := XW.push hW
  have hF2 : XF cs ea u sg ((ol, la cs f) :: Y) := hF.more (fun q9 h9 => List.mem_cons_of_mem _ h9)
  have hPH2 := XH.of (D := D) hW2 hF2
  refine z_cat (vx_runV (As := [.int p0, .int p1]) (rest := [.int (nI 0), .ref ol]) ⟨hx, hb, hml, hown, hts⟩ hM (cwV 2 hts gL_differentBlocks_X2_differentBlocks rfl rfl rfl (by decide +kernel) ⟨Nat.le_of_ble_eq_true rfl, Nat.le_of_ble_eq_true rfl⟩) ⟨zE_blind, z_recv hK (hW2.1 0 _ rfl) rfl, zE_pre hPH2 hK hE va_S.rf⟩ rfl rfl hl.1 rfl (lv_room (Nat.le_of_ble_eq_true rfl)) dL_differentBlocks_5 ⟨Nat.le_of_ble_eq_true rfl, Nat.le_of_ble_eq_true rfl⟩) (fun H q8 ce hz9 hk9 hq1 hq2 hq3 => ?_)
  have hW : Wd D S0 ((ol, la cs f) :: XW cs a u sg Y) H := hW.kept hz9 hk9
  have hS : va_S (SA S0) s.heap H [] := ⟨hz9, fun q9 h9 _ => hk9 q9 h9, fun q9 h9 => absurd h9 List.not_mem_nil⟩
  refine vx_catch (name := eIA) hown [⟨0, 10, 13, 25⟩] ⟨0, 10, 17, 13⟩ [] htab (fun z9 h9 => by
      rw [List.mem_singleton.mp h9]
      exact Or.inr ⟨by decide, eIO, hts (.classLink RL 25 eIO) (by decide +kernel), hN.1⟩) (by decide) (by decide) (hts (.classLink RL 13 eIA) (by decide +kernel)) (va_Nw.use rfl (hE.2.2.2.2.1 (eIA, eIA) (by decide))) hq1 hq2 hq3 ?_
  refine lv_astore (lv' := [(4, .ref q8), (0, .ref (a 0)), (1, .int p0), (2, .int p1), (3, .ref ol)]) hx hb dL_differentBlocks_17 hl (by decide) rfl (fun ls hl => ?_)
  refine lv_iconst (v := nI 2) hx hb dL_differentBlocks_19 (by decide) ?_
  refine W.widen (k := 5) (n := 1607) (by omega) (by omega) ?_
  exact W.iret (v := nI 2) hx hb hr (fun t ht hW9 => ⟨⟨_, (u, [], f), rfl, ⟨rfl, fun h9 => absurd h9 (by decide), hF⟩, (by show Wd D S0 _ _; rw [ht]; exact hW)⟩, hS.F ht⟩) (fun q9 h9 => hS.2.2 q9 h9) dL_differentBlocks_20

set_option maxHeartbeats 4000000 in
set_option maxRecDepth 100000 in
theorem h_difference_ok (l : Launch) (D : va_G) (cs : Nat → ClassId) (S0 ea mi : Nat) (sa : Nat → Nat) (Y : va_W) (a : Nat → Nat) (u : XU) (sg : St) (hF : XF cs ea u sg Y) (ol : Nat) (f : Nat → Int64) (p0 : Int32) (p1 : Int32) (p2 : Int32) (R9 : Int32) (τ : St) (hM : xOK l D cs S0 ea mi sa ((ol, la cs f) :: Y) a u sg yX2_difference wsX2_difference [.ref (a 0), .int p0, .int p1, .int p2] R9 τ) : hOK l D cs S0 ea mi sa Y a u sg ol f yL_difference wsL_difference [.ref (a 0), .int p0, .int p1, .int p2, .ref ol] 0 R9.toInt64 τ := by
  refine z_ofWH (cc := cL_difference) (maxL := 6) (ret := (some .int)) (hh := [(0, 12, 15, 25), (0, 12, 19, 13), (0, 12, 23, 15)]) (by decide) rfl ?_
  intro p e s m args below meth c s₁ B hml hv
  obtain ⟨⟨rfl, hW, hK, hE⟩, hN⟩ := hv
  have hx := B.exec
  have hb := B.bytes
  have hr := B.returns
  have hts := atoms_spec (ws := wsL_difference) B.pre
  have hown : s.vm.findClass RL = some m.cls := findClass_of_methodNamed B.named
  have hlocks := B.notSynchronized
  have hRc : (headSpec wsL_difference RmH).room.cells = 5 := rfl
  have hRs : (headSpec wsL_difference RmH).room.slots = 1607 := rfl
  have hW : Wd D S0 ((ol, la cs f) :: XW cs a u sg Y) s.heap := hW
  have hS : va_S (SA S0) s.heap s.heap [] := va_S.rf
  have hl := lv_entry ([.ref (a 0), .int p0, .int p1, .int p2, .ref ol]) (n := 6) (Nat.le_of_ble_eq_true rfl)
  rw [lg_entry_eq]
  generalize (lg_sl ([.ref (a 0), .int p0, .int p1, .int p2, .ref ol]) ++ List.replicate (6 - (lg_sl ([.ref (a 0), .int p0, .int p1, .int p2, .ref ol])).length) Slot.unset).toArray = ls at hl ⊢
  have hl : lv_has ls 6 [(0, .ref (a 0)), (1, .int p0), (2, .int p1), (3, .int p2), (4, .ref ol)] := hl
  refine lv_aload hx hb dL_difference_0 (lv_at hl 4 rfl) ?_
  refine lv_iconst (v := nI 0) hx hb dL_difference_2 (by decide) ?_
  refine lv_aload_n hx hb dL_difference_3 rfl (lv_at hl 0 rfl) ?_
  refine lv_iload_n hx hb dL_difference_4 rfl (lv_at hl 1 rfl) ?_
  refine lv_iload_n hx hb dL_difference_5 rfl (lv_at hl 2 rfl) ?_
  refine lv_iload_n hx hb dL_difference_6 rfl (lv_at hl 3 rfl) ?_
  have hW2 : Wd D S0 (XW cs a u sg ((ol, la cs f) :: Y)) s.heap := XW.push hW
  have hF2 : XF cs ea u sg ((ol, la cs f) :: Y) := hF.more (fun q9 h9 => List.mem_cons_of_mem _ h9)
  refine z_cmI (va_runV (As := [.int p0, .int p1, .int p2]) (rest := [.int (nI 0), .ref ol]) ⟨hx, hb, hml, hown, hts⟩ hM (cwV 3 hts gL_difference_X2_difference rfl rfl rfl (by decide +kernel) ⟨Nat.le_of_ble_eq_true rfl, Nat.le_of_ble_eq_true rfl⟩) ⟨zE_blind, z_recv hK (hW2.1 0 _ rfl) rfl, zE_pre hW2 hK hE hS⟩ rfl rfl hl.1 rfl (lv_room (Nat.le_of_ble_eq_true rfl)) dL_difference_7 ⟨Nat.le_of_ble_eq_true rfl, Nat.le_of_ble_eq_true rfl⟩) hS (fun r v H locs hu hW hS => ?_)
  obtain ⟨hu1, hu2⟩ := hu
  rw [hu1]
  have hW := XW.pull hW
  have hF3 : XF cs ea v.1 τ (v.2 ++ Y) := hu2.sel (sel_drop (A := [(ol, la cs f)]) (fun q9 h9 => by rw [List.mem_singleton.mp h9]; exact okE_la))
  have hW : Wd D S0 ((ol, la cs f) :: XW cs a v.1 τ (v.2 ++ Y)) H := hW
  refine lv_i2l (v := R9.toInt64) hx hb dL_difference_10 rfl ?_
  refine z_last hx hb hK hW hS dL_difference_11 (fun H locs g9 hg9 hW hS => ?_)
  have hW : Wd D S0 ((ol, la cs g9) :: XW cs a v.1 τ (v.2 ++ Y)) H := hW
  refine lv_goto (tgt := 27) hx hb dL_difference_12 (by decide) ?_
  refine lv_iconst (v := nI 0) hx hb dL_difference_27 (by decide) ?_
  refine W.widen (k := 5) (n := 1607) (by omega) (by omega) ?_
  exact W.iret (v := nI 0) hx hb hr (fun t ht hW9 => ⟨⟨_, (v.1, v.2, g9), rfl, ⟨rfl, fun _ => hg9, hF3⟩, (by show Wd D S0 _ _; rw [ht]; exact hW)⟩, hS.F ht⟩) (fun q9 h9 => hS.2.2 q9 h9) dL_difference_28

set_option maxHeartbeats 4000000 in
set_option maxRecDepth 100000 in
theorem h_difference_IO (l : Launch) (D : va_G) (cs : Nat → ClassId) (S0 ea mi : Nat) (sa : Nat → Nat) (Y : va_W) (a : Nat → Nat) (u : XU) (sg : St) (hF : XF cs ea u sg Y) (ol : Nat) (f : Nat → Int64) (p0 : Int32) (p1 : Int32) (p2 : Int32) (R9 : Int64) (hM : vT l yX2_difference wsX2_difference RmT (zE [.ref (a 0), .int p0, .int p1, .int p2] (fun H => XH D cs a u sg H) D cs S0 ea mi sa) eIO) : hOK l D cs S0 ea mi sa Y a u sg ol f yL_difference wsL_difference [.ref (a 0), .int p0, .int p1, .int p2, .ref ol] 1 R9 sg := by
  refine z_ofWH (cc := cL_difference) (maxL := 6) (ret := (some .int)) (hh := [(0, 12, 15, 25), (0, 12, 19, 13), (0, 12, 23, 15)]) (by decide) rfl ?_
  intro p e s m args below meth c s₁ B hml hv
  obtain ⟨⟨rfl, hW, hK, hE⟩, hN⟩ := hv
  have hx := B.exec
  have hb := B.bytes
  have hr := B.returns
  have hts := atoms_spec (ws := wsL_difference) B.pre
  have hown : s.vm.findClass RL = some m.cls := findClass_of_methodNamed B.named
  have hlocks := B.notSynchronized
  have htab : c.exceptionTable.toList = tableOf [(0, 12, 15, 25), (0, 12, 19, 13), (0, 12, 23, 15)] := vx_table (x := yL_difference) B (hts _ List.mem_cons_self)
  have hRc : (headSpec wsL_difference RmH).room.cells = 5 := rfl
  have hRs : (headSpec wsL_difference RmH).room.slots = 1607 := rfl
  have hW : Wd D S0 ((ol, la cs f) :: XW cs a u sg Y) s.heap := hW
  have hS : va_S (SA S0) s.heap s.heap [] := va_S.rf
  have hl := lv_entry ([.ref (a 0), .int p0, .int p1, .int p2, .ref ol]) (n := 6) (Nat.le_of_ble_eq_true rfl)
  rw [lg_entry_eq]
  generalize (lg_sl ([.ref (a 0), .int p0, .int p1, .int p2, .ref ol]) ++ List.replicate (6 - (lg_sl ([.ref (a 0), .int p0, .int p1, .int p2, .ref ol])).length) Slot.unset).toArray = ls at hl ⊢
  have hl : lv_has ls 6 [(0, .ref (a 0)), (1, .int p0), (2, .int p1), (3, .int p2), (4, .ref ol)] := hl
  refine lv_aload hx hb dL_difference_0 (lv_at hl 4 rfl) ?_
  refine lv_iconst (v := nI 0) hx hb dL_difference_2 (by decide) ?_
  refine lv_aload_n hx hb dL_difference_3 rfl (lv_at hl 0 rfl) ?_
  refine lv_iload_n hx hb dL_difference_4 rfl (lv_at hl 1 rfl) ?_
  refine lv_iload_n hx hb dL_difference_5 rfl (lv_at hl 2 rfl) ?_
  refine lv_iload_n hx hb dL_difference_6 rfl (lv_at hl 3 rfl) ?_
  have hW2 : Wd D S0 (XW cs a u sg ((ol, la cs f) :: Y)) s.heap := XW.push hW
  have hF2 : XF cs ea u sg ((ol, la cs f) :: Y) := hF.more (fun q9 h9 => List.mem_cons_of_mem _ h9)
  have hPH2 := XH.of (D := D) hW2 hF2
  refine z_cat (vx_runV (As := [.int p0, .int p1, .int p2]) (rest := [.int (nI 0), .ref ol]) ⟨hx, hb, hml, hown, hts⟩ hM (cwV 3 hts gL_difference_X2_difference rfl rfl rfl (by decide +kernel) ⟨Nat.le_of_ble_eq_true rfl, Nat.le_of_ble_eq_true rfl⟩) ⟨zE_blind, z_recv hK (hW2.1 0 _ rfl) rfl, zE_pre hPH2 hK hE va_S.rf⟩ rfl rfl hl.1 rfl (lv_room (Nat.le_of_ble_eq_true rfl)) dL_difference_7 ⟨Nat.le_of_ble_eq_true rfl, Nat.le_of_ble_eq_true rfl⟩) (fun H q8 ce hz9 hk9 hq1 hq2 hq3 => ?_)
  have hW : Wd D S0 ((ol, la cs f) :: XW cs a u sg Y) H := hW.kept hz9 hk9
  have hS : va_S (SA S0) s.heap H [] := ⟨hz9, fun q9 h9 _ => hk9 q9 h9, fun q9 h9 => absurd h9 List.not_mem_nil⟩
  refine vx_catch (name := eIO) hown [] ⟨0, 12, 15, 25⟩ [⟨0, 12, 19, 13⟩, ⟨0, 12, 23, 15⟩] htab (fun z9 h9 => absurd h9 List.not_mem_nil) (by decide) (by decide) (hts (.classLink RL 25 eIO) (by decide +kernel)) (va_Nw.use rfl (hE.2.2.2.2.1 (eIO, eIO) (by decide))) hq1 hq2 hq3 ?_
  refine lv_astore (lv' := [(5, .ref q8), (0, .ref (a 0)), (1, .int p0), (2, .int p1), (3, .int p2), (4, .ref ol)]) hx hb dL_difference_15 hl (by decide) rfl (fun ls hl => ?_)
  refine lv_iconst (v := nI 1) hx hb dL_difference_17 (by decide) ?_
  refine W.widen (k := 5) (n := 1607) (by omega) (by omega) ?_
  exact W.iret (v := nI 1) hx hb hr (fun t ht hW9 => ⟨⟨_, (u, [], f), rfl, ⟨rfl, fun h9 => absurd h9 (by decide), hF⟩, (by show Wd D S0 _ _; rw [ht]; exact hW)⟩, hS.F ht⟩) (fun q9 h9 => hS.2.2 q9 h9) dL_difference_18

set_option maxHeartbeats 4000000 in
set_option maxRecDepth 100000 in
theorem h_difference_IA (l : Launch) (D : va_G) (cs : Nat → ClassId) (S0 ea mi : Nat) (sa : Nat → Nat) (Y : va_W) (a : Nat → Nat) (u : XU) (sg : St) (hF : XF cs ea u sg Y) (ol : Nat) (f : Nat → Int64) (p0 : Int32) (p1 : Int32) (p2 : Int32) (R9 : Int64) (hM : vT l yX2_difference wsX2_difference RmT (zE [.ref (a 0), .int p0, .int p1, .int p2] (fun H => XH D cs a u sg H) D cs S0 ea mi sa) eIA) : hOK l D cs S0 ea mi sa Y a u sg ol f yL_difference wsL_difference [.ref (a 0), .int p0, .int p1, .int p2, .ref ol] 2 R9 sg := by
  refine z_ofWH (cc := cL_difference) (maxL := 6) (ret := (some .int)) (hh := [(0, 12, 15, 25), (0, 12, 19, 13), (0, 12, 23, 15)]) (by decide) rfl ?_
  intro p e s m args below meth c s₁ B hml hv
  obtain ⟨⟨rfl, hW, hK, hE⟩, hN⟩ := hv
  have hx := B.exec
  have hb := B.bytes
  have hr := B.returns
  have hts := atoms_spec (ws := wsL_difference) B.pre
  have hown : s.vm.findClass RL = some m.cls := findClass_of_methodNamed B.named
  have hlocks := B.notSynchronized
  have htab : c.exceptionTable.toList = tableOf [(0, 12, 15, 25), (0, 12, 19, 13), (0, 12, 23, 15)] := vx_table (x := yL_difference) B (hts _ List.mem_cons_self)
  have hRc : (headSpec wsL_difference RmH).room.cells = 5 := rfl
  have hRs : (headSpec wsL_difference RmH).room.slots = 1607 := rfl
  have hW : Wd D S0 ((ol, la cs f) :: XW cs a u sg Y) s.heap := hW
  have hS : va_S (SA S0) s.heap s.heap [] := va_S.rf
  have hl := lv_entry ([.ref (a 0), .int p0, .int p1, .int p2, .ref ol]) (n := 6) (Nat.le_of_ble_eq_true rfl)
  rw [lg_entry_eq]
  generalize (lg_sl ([.ref (a 0), .int p0, .int p1, .int p2, .ref ol]) ++ List.replicate (6 - (lg_sl ([.ref (a 0), .int p0, .int p1, .int p2, .ref ol])).length) Slot.unset).toArray = ls at hl ⊢
  have hl : lv_has ls 6 [(0, .ref (a 0)), (1, .int p0), (2, .int p1), (3, .int p2), (4, .ref ol)] := hl
  refine lv_aload hx hb dL_difference_0 (lv_at hl 4 rfl) ?_
  refine lv_iconst (v := nI 0) hx hb dL_difference_2 (by decide) ?_
  refine lv_aload_n hx hb dL_difference_3 rfl (lv_at hl 0 rfl) ?_
  refine lv_iload_n hx hb dL_difference_4 rfl (lv_at hl 1 rfl) ?_
  refine lv_iload_n hx hb dL_difference_5 rfl (lv_at hl 2 rfl) ?_
  refine lv_iload_n hx hb dL_difference_6 rfl (lv_at hl 3 rfl) ?_
  have hW2 : Wd D S0 (XW cs a u sg ((ol, la cs f) :: Y)) s.heap := XW.push hW
  have hF2 : XF cs ea u sg ((ol, la cs f) :: Y) := hF.more (fun q9 h9 => List.mem_cons_of_mem _ h9)
  have hPH2 := XH.of (D := D) hW2 hF2
  refine z_cat (vx_runV (As := [.int p0, .int p1, .int p2]) (rest := [.int (nI 0), .ref ol]) ⟨hx, hb, hml, hown, hts⟩ hM (cwV 3 hts gL_difference_X2_difference rfl rfl rfl (by decide +kernel) ⟨Nat.le_of_ble_eq_true rfl, Nat.le_of_ble_eq_true rfl⟩) ⟨zE_blind, z_recv hK (hW2.1 0 _ rfl) rfl, zE_pre hPH2 hK hE va_S.rf⟩ rfl rfl hl.1 rfl (lv_room (Nat.le_of_ble_eq_true rfl)) dL_difference_7 ⟨Nat.le_of_ble_eq_true rfl, Nat.le_of_ble_eq_true rfl⟩) (fun H q8 ce hz9 hk9 hq1 hq2 hq3 => ?_)
  have hW : Wd D S0 ((ol, la cs f) :: XW cs a u sg Y) H := hW.kept hz9 hk9
  have hS : va_S (SA S0) s.heap H [] := ⟨hz9, fun q9 h9 _ => hk9 q9 h9, fun q9 h9 => absurd h9 List.not_mem_nil⟩
  refine vx_catch (name := eIA) hown [⟨0, 12, 15, 25⟩] ⟨0, 12, 19, 13⟩ [⟨0, 12, 23, 15⟩] htab (fun z9 h9 => by
      rw [List.mem_singleton.mp h9]
      exact Or.inr ⟨by decide, eIO, hts (.classLink RL 25 eIO) (by decide +kernel), hN.1⟩) (by decide) (by decide) (hts (.classLink RL 13 eIA) (by decide +kernel)) (va_Nw.use rfl (hE.2.2.2.2.1 (eIA, eIA) (by decide))) hq1 hq2 hq3 ?_
  refine lv_astore (lv' := [(5, .ref q8), (0, .ref (a 0)), (1, .int p0), (2, .int p1), (3, .int p2), (4, .ref ol)]) hx hb dL_difference_19 hl (by decide) rfl (fun ls hl => ?_)
  refine lv_iconst (v := nI 2) hx hb dL_difference_21 (by decide) ?_
  refine W.widen (k := 5) (n := 1607) (by omega) (by omega) ?_
  exact W.iret (v := nI 2) hx hb hr (fun t ht hW9 => ⟨⟨_, (u, [], f), rfl, ⟨rfl, fun h9 => absurd h9 (by decide), hF⟩, (by show Wd D S0 _ _; rw [ht]; exact hW)⟩, hS.F ht⟩) (fun q9 h9 => hS.2.2 q9 h9) dL_difference_22

set_option maxHeartbeats 4000000 in
set_option maxRecDepth 100000 in
theorem h_difference_IS (l : Launch) (D : va_G) (cs : Nat → ClassId) (S0 ea mi : Nat) (sa : Nat → Nat) (Y : va_W) (a : Nat → Nat) (u : XU) (sg : St) (hF : XF cs ea u sg Y) (ol : Nat) (f : Nat → Int64) (p0 : Int32) (p1 : Int32) (p2 : Int32) (R9 : Int64) (hM : vT l yX2_difference wsX2_difference RmT (zE [.ref (a 0), .int p0, .int p1, .int p2] (fun H => XH D cs a u sg H) D cs S0 ea mi sa) eIS) : hOK l D cs S0 ea mi sa Y a u sg ol f yL_difference wsL_difference [.ref (a 0), .int p0, .int p1, .int p2, .ref ol] 3 R9 sg := by
  refine z_ofWH (cc := cL_difference) (maxL := 6) (ret := (some .int)) (hh := [(0, 12, 15, 25), (0, 12, 19, 13), (0, 12, 23, 15)]) (by decide) rfl ?_
  intro p e s m args below meth c s₁ B hml hv
  obtain ⟨⟨rfl, hW, hK, hE⟩, hN⟩ := hv
  have hx := B.exec
  have hb := B.bytes
  have hr := B.returns
  have hts := atoms_spec (ws := wsL_difference) B.pre
  have hown : s.vm.findClass RL = some m.cls := findClass_of_methodNamed B.named
  have hlocks := B.notSynchronized
  have htab : c.exceptionTable.toList = tableOf [(0, 12, 15, 25), (0, 12, 19, 13), (0, 12, 23, 15)] := vx_table (x := yL_difference) B (hts _ List.mem_cons_self)
  have hRc : (headSpec wsL_difference RmH).room.cells = 5 := rfl
  have hRs : (headSpec wsL_difference RmH).room.slots = 1607 := rfl
  have hW : Wd D S0 ((ol, la cs f) :: XW cs a u sg Y) s.heap := hW
  have hS : va_S (SA S0) s.heap s.heap [] := va_S.rf
  have hl := lv_entry ([.ref (a 0), .int p0, .int p1, .int p2, .ref ol]) (n := 6) (Nat.le_of_ble_eq_true rfl)
  rw [lg_entry_eq]
  generalize (lg_sl ([.ref (a 0), .int p0, .int p1, .int p2, .ref ol]) ++ List.replicate (6 - (lg_sl ([.ref (a 0), .int p0, .int p1, .int p2, .ref ol])).length) Slot.unset).toArray = ls at hl ⊢
  have hl : lv_has ls 6 [(0, .ref (a 0)), (1, .int p0), (2, .int p1), (3, .int p2), (4, .ref ol)] := hl
  refine lv_aload hx hb dL_difference_0 (lv_at hl 4 rfl) ?_
  refine lv_iconst (v := nI 0) hx hb dL_difference_2 (by decide) ?_
  refine lv_aload_n hx hb dL_difference_3 rfl (lv_at hl 0 rfl) ?_
  refine lv_iload_n hx hb dL_difference_4 rfl (lv_at hl 1 rfl) ?_
  refine lv_iload_n hx hb dL_difference_5 rfl (lv_at hl 2 rfl) ?_
  refine lv_iload_n hx hb dL_difference_6 rfl (lv_at hl 3 rfl) ?_
  have hW2 : Wd D S0 (XW cs a u sg ((ol, la cs f) :: Y)) s.heap := XW.push hW
  have hF2 : XF cs ea u sg ((ol, la cs f) :: Y) := hF.more (fun q9 h9 => List.mem_cons_of_mem _ h9)
  have hPH2 := XH.of (D := D) hW2 hF2
  refine z_cat (vx_runV (As := [.int p0, .int p1, .int p2]) (rest := [.int (nI 0), .ref ol]) ⟨hx, hb, hml, hown, hts⟩ hM (cwV 3 hts gL_difference_X2_difference rfl rfl rfl (by decide +kernel) ⟨Nat.le_of_ble_eq_true rfl, Nat.le_of_ble_eq_true rfl⟩) ⟨zE_blind, z_recv hK (hW2.1 0 _ rfl) rfl, zE_pre hPH2 hK hE va_S.rf⟩ rfl rfl hl.1 rfl (lv_room (Nat.le_of_ble_eq_true rfl)) dL_difference_7 ⟨Nat.le_of_ble_eq_true rfl, Nat.le_of_ble_eq_true rfl⟩) (fun H q8 ce hz9 hk9 hq1 hq2 hq3 => ?_)
  have hW : Wd D S0 ((ol, la cs f) :: XW cs a u sg Y) H := hW.kept hz9 hk9
  have hS : va_S (SA S0) s.heap H [] := ⟨hz9, fun q9 h9 _ => hk9 q9 h9, fun q9 h9 => absurd h9 List.not_mem_nil⟩
  refine vx_catch (name := eIS) hown [⟨0, 12, 15, 25⟩, ⟨0, 12, 19, 13⟩] ⟨0, 12, 23, 15⟩ [] htab (fun z9 h9 => by
      rcases List.mem_cons.mp h9 with h9 | h9
      · rw [h9]; exact Or.inr ⟨by decide, eIO, hts (.classLink RL 25 eIO) (by decide +kernel), hN.2.1⟩
      · rw [List.mem_singleton.mp h9]; exact Or.inr ⟨by decide, eIA, hts (.classLink RL 13 eIA) (by decide +kernel), hN.2.2⟩) (by decide) (by decide) (hts (.classLink RL 15 eIS) (by decide +kernel)) (va_Nw.use rfl (hE.2.2.2.2.1 (eIS, eIS) (by decide))) hq1 hq2 hq3 ?_
  refine lv_astore (lv' := [(5, .ref q8), (0, .ref (a 0)), (1, .int p0), (2, .int p1), (3, .int p2), (4, .ref ol)]) hx hb dL_difference_23 hl (by decide) rfl (fun ls hl => ?_)
  refine lv_iconst (v := nI 3) hx hb dL_difference_25 (by decide) ?_
  refine W.widen (k := 5) (n := 1607) (by omega) (by omega) ?_
  exact W.iret (v := nI 3) hx hb hr (fun t ht hW9 => ⟨⟨_, (u, [], f), rfl, ⟨rfl, fun h9 => absurd h9 (by decide), hF⟩, (by show Wd D S0 _ _; rw [ht]; exact hW)⟩, hS.F ht⟩) (fun q9 h9 => hS.2.2 q9 h9) dL_difference_26

set_option maxHeartbeats 4000000 in
set_option maxRecDepth 100000 in
theorem h_compose_ok (l : Launch) (D : va_G) (cs : Nat → ClassId) (S0 ea mi : Nat) (sa : Nat → Nat) (Y : va_W) (a : Nat → Nat) (u : XU) (sg : St) (hF : XF cs ea u sg Y) (ol : Nat) (f : Nat → Int64) (p0 : Int32) (p1 : Int32) (R9 : Int32) (τ : St) (hM : xOK l D cs S0 ea mi sa ((ol, la cs f) :: Y) a u sg yX2_compose wsX2_compose [.ref (a 0), .int p0, .int p1] R9 τ) : hOK l D cs S0 ea mi sa Y a u sg ol f yL_compose wsL_compose [.ref (a 0), .int p0, .int p1, .ref ol] 0 R9.toInt64 τ := by
  refine z_ofWH (cc := cL_compose) (maxL := 5) (ret := (some .int)) (hh := [(0, 10, 13, 25), (0, 10, 17, 13), (0, 10, 21, 15)]) (by decide) rfl ?_
  intro p e s m args below meth c s₁ B hml hv
  obtain ⟨⟨rfl, hW, hK, hE⟩, hN⟩ := hv
  have hx := B.exec
  have hb := B.bytes
  have hr := B.returns
  have hts := atoms_spec (ws := wsL_compose) B.pre
  have hown : s.vm.findClass RL = some m.cls := findClass_of_methodNamed B.named
  have hlocks := B.notSynchronized
  have hRc : (headSpec wsL_compose RmH).room.cells = 5 := rfl
  have hRs : (headSpec wsL_compose RmH).room.slots = 1607 := rfl
  have hW : Wd D S0 ((ol, la cs f) :: XW cs a u sg Y) s.heap := hW
  have hS : va_S (SA S0) s.heap s.heap [] := va_S.rf
  have hl := lv_entry ([.ref (a 0), .int p0, .int p1, .ref ol]) (n := 5) (Nat.le_of_ble_eq_true rfl)
  rw [lg_entry_eq]
  generalize (lg_sl ([.ref (a 0), .int p0, .int p1, .ref ol]) ++ List.replicate (5 - (lg_sl ([.ref (a 0), .int p0, .int p1, .ref ol])).length) Slot.unset).toArray = ls at hl ⊢
  have hl : lv_has ls 5 [(0, .ref (a 0)), (1, .int p0), (2, .int p1), (3, .ref ol)] := hl
  refine lv_aload_n hx hb dL_compose_0 rfl (lv_at hl 3 rfl) ?_
  refine lv_iconst (v := nI 0) hx hb dL_compose_1 (by decide) ?_
  refine lv_aload_n hx hb dL_compose_2 rfl (lv_at hl 0 rfl) ?_
  refine lv_iload_n hx hb dL_compose_3 rfl (lv_at hl 1 rfl) ?_
  refine lv_iload_n hx hb dL_compose_4 rfl (lv_at hl 2 rfl) ?_
  have hW2 : Wd D S0 (XW cs a u sg ((ol, la cs f) :: Y)) s.heap := XW.push hW
  have hF2 : XF cs ea u sg ((ol, la cs f) :: Y) := hF.more (fun q9 h9 => List.mem_cons_of_mem _ h9)
  refine z_cmI (va_runV (As := [.int p0, .int p1]) (rest := [.int (nI 0), .ref ol]) ⟨hx, hb, hml, hown, hts⟩ hM (cwV 2 hts gL_compose_X2_compose rfl rfl rfl (by decide +kernel) ⟨Nat.le_of_ble_eq_true rfl, Nat.le_of_ble_eq_true rfl⟩) ⟨zE_blind, z_recv hK (hW2.1 0 _ rfl) rfl, zE_pre hW2 hK hE hS⟩ rfl rfl hl.1 rfl (lv_room (Nat.le_of_ble_eq_true rfl)) dL_compose_5 ⟨Nat.le_of_ble_eq_true rfl, Nat.le_of_ble_eq_true rfl⟩) hS (fun r v H locs hu hW hS => ?_)
  obtain ⟨hu1, hu2⟩ := hu
  rw [hu1]
  have hW := XW.pull hW
  have hF3 : XF cs ea v.1 τ (v.2 ++ Y) := hu2.sel (sel_drop (A := [(ol, la cs f)]) (fun q9 h9 => by rw [List.mem_singleton.mp h9]; exact okE_la))
  have hW : Wd D S0 ((ol, la cs f) :: XW cs a v.1 τ (v.2 ++ Y)) H := hW
  refine lv_i2l (v := R9.toInt64) hx hb dL_compose_8 rfl ?_
  refine z_last hx hb hK hW hS dL_compose_9 (fun H locs g9 hg9 hW hS => ?_)
  have hW : Wd D S0 ((ol, la cs g9) :: XW cs a v.1 τ (v.2 ++ Y)) H := hW
  refine lv_goto (tgt := 25) hx hb dL_compose_10 (by decide) ?_
  refine lv_iconst (v := nI 0) hx hb dL_compose_25 (by decide) ?_
  refine W.widen (k := 5) (n := 1607) (by omega) (by omega) ?_
  exact W.iret (v := nI 0) hx hb hr (fun t ht hW9 => ⟨⟨_, (v.1, v.2, g9), rfl, ⟨rfl, fun _ => hg9, hF3⟩, (by show Wd D S0 _ _; rw [ht]; exact hW)⟩, hS.F ht⟩) (fun q9 h9 => hS.2.2 q9 h9) dL_compose_26

set_option maxHeartbeats 4000000 in
set_option maxRecDepth 100000 in
theorem h_compose_IO (l : Launch) (D : va_G) (cs : Nat → ClassId) (S0 ea mi : Nat) (sa : Nat → Nat) (Y : va_W) (a : Nat → Nat) (u : XU) (sg : St) (hF : XF cs ea u sg Y) (ol : Nat) (f : Nat → Int64) (p0 : Int32) (p1 : Int32) (R9 : Int64) (hM : vT l yX2_compose wsX2_compose RmT (zE [.ref (a 0), .int p0, .int p1] (fun H => XH D cs a u sg H) D cs S0 ea mi sa) eIO) : hOK l D cs S0 ea mi sa Y a u sg ol f yL_compose wsL_compose [.ref (a 0), .int p0, .int p1, .ref ol] 1 R9 sg := by
  refine z_ofWH (cc := cL_compose) (maxL := 5) (ret := (some .int)) (hh := [(0, 10, 13, 25), (0, 10, 17, 13), (0, 10, 21, 15)]) (by decide) rfl ?_
  intro p e s m args below meth c s₁ B hml hv
  obtain ⟨⟨rfl, hW, hK, hE⟩, hN⟩ := hv
  have hx := B.exec
  have hb := B.bytes
  have hr := B.returns
  have hts := atoms_spec (ws := wsL_compose) B.pre
  have hown : s.vm.findClass RL = some m.cls := findClass_of_methodNamed B.named
  have hlocks := B.notSynchronized
  have htab : c.exceptionTable.toList = tableOf [(0, 10, 13, 25), (0, 10, 17, 13), (0, 10, 21, 15)] := vx_table (x := yL_compose) B (hts _ List.mem_cons_self)
  have hRc : (headSpec wsL_compose RmH).room.cells = 5 := rfl
  have hRs : (headSpec wsL_compose RmH).room.slots = 1607 := rfl
  have hW : Wd D S0 ((ol, la cs f) :: XW cs a u sg Y) s.heap := hW
  have hS : va_S (SA S0) s.heap s.heap [] := va_S.rf
  have hl := lv_entry ([.ref (a 0), .int p0, .int p1, .ref ol]) (n := 5) (Nat.le_of_ble_eq_true rfl)
  rw [lg_entry_eq]
  generalize (lg_sl ([.ref (a 0), .int p0, .int p1, .ref ol]) ++ List.replicate (5 - (lg_sl ([.ref (a 0), .int p0, .int p1, .ref ol])).length) Slot.unset).toArray = ls at hl ⊢
  have hl : lv_has ls 5 [(0, .ref (a 0)), (1, .int p0), (2, .int p1), (3, .ref ol)] := hl
  refine lv_aload_n hx hb dL_compose_0 rfl (lv_at hl 3 rfl) ?_
  refine lv_iconst (v := nI 0) hx hb dL_compose_1 (by decide) ?_
  refine lv_aload_n hx hb dL_compose_2 rfl (lv_at hl 0 rfl) ?_
  refine lv_iload_n hx hb dL_compose_3 rfl (lv_at hl 1 rfl) ?_
  refine lv_iload_n hx hb dL_compose_4 rfl (lv_at hl 2 rfl) ?_
  have hW2 : Wd D S0 (XW cs a u sg ((ol, la cs f) :: Y)) s.heap := XW.push hW
  have hF2 : XF cs ea u sg ((ol, la cs f) :: Y) := hF.more (fun q9 h9 => List.mem_cons_of_mem _ h9)
  have hPH2 := XH.of (D := D) hW2 hF2
  refine z_cat (vx_runV (As := [.int p0, .int p1]) (rest := [.int (nI 0), .ref ol]) ⟨hx, hb, hml, hown, hts⟩ hM (cwV 2 hts gL_compose_X2_compose rfl rfl rfl (by decide +kernel) ⟨Nat.le_of_ble_eq_true rfl, Nat.le_of_ble_eq_true rfl⟩) ⟨zE_blind, z_recv hK (hW2.1 0 _ rfl) rfl, zE_pre hPH2 hK hE va_S.rf⟩ rfl rfl hl.1 rfl (lv_room (Nat.le_of_ble_eq_true rfl)) dL_compose_5 ⟨Nat.le_of_ble_eq_true rfl, Nat.le_of_ble_eq_true rfl⟩) (fun H q8 ce hz9 hk9 hq1 hq2 hq3 => ?_)
  have hW : Wd D S0 ((ol, la cs f) :: XW cs a u sg Y) H := hW.kept hz9 hk9
  have hS : va_S (SA S0) s.heap H [] := ⟨hz9, fun q9 h9 _ => hk9 q9 h9, fun q9 h9 => absurd h9 List.not_mem_nil⟩
  refine vx_catch (name := eIO) hown [] ⟨0, 10, 13, 25⟩ [⟨0, 10, 17, 13⟩, ⟨0, 10, 21, 15⟩] htab (fun z9 h9 => absurd h9 List.not_mem_nil) (by decide) (by decide) (hts (.classLink RL 25 eIO) (by decide +kernel)) (va_Nw.use rfl (hE.2.2.2.2.1 (eIO, eIO) (by decide))) hq1 hq2 hq3 ?_
  refine lv_astore (lv' := [(4, .ref q8), (0, .ref (a 0)), (1, .int p0), (2, .int p1), (3, .ref ol)]) hx hb dL_compose_13 hl (by decide) rfl (fun ls hl => ?_)
  refine lv_iconst (v := nI 1) hx hb dL_compose_15 (by decide) ?_
  refine W.widen (k := 5) (n := 1607) (by omega) (by omega) ?_
  exact W.iret (v := nI 1) hx hb hr (fun t ht hW9 => ⟨⟨_, (u, [], f), rfl, ⟨rfl, fun h9 => absurd h9 (by decide), hF⟩, (by show Wd D S0 _ _; rw [ht]; exact hW)⟩, hS.F ht⟩) (fun q9 h9 => hS.2.2 q9 h9) dL_compose_16

set_option maxHeartbeats 4000000 in
set_option maxRecDepth 100000 in
theorem h_compose_IA (l : Launch) (D : va_G) (cs : Nat → ClassId) (S0 ea mi : Nat) (sa : Nat → Nat) (Y : va_W) (a : Nat → Nat) (u : XU) (sg : St) (hF : XF cs ea u sg Y) (ol : Nat) (f : Nat → Int64) (p0 : Int32) (p1 : Int32) (R9 : Int64) (hM : vT l yX2_compose wsX2_compose RmT (zE [.ref (a 0), .int p0, .int p1] (fun H => XH D cs a u sg H) D cs S0 ea mi sa) eIA) : hOK l D cs S0 ea mi sa Y a u sg ol f yL_compose wsL_compose [.ref (a 0), .int p0, .int p1, .ref ol] 2 R9 sg := by
  refine z_ofWH (cc := cL_compose) (maxL := 5) (ret := (some .int)) (hh := [(0, 10, 13, 25), (0, 10, 17, 13), (0, 10, 21, 15)]) (by decide) rfl ?_
  intro p e s m args below meth c s₁ B hml hv
  obtain ⟨⟨rfl, hW, hK, hE⟩, hN⟩ := hv
  have hx := B.exec
  have hb := B.bytes
  have hr := B.returns
  have hts := atoms_spec (ws := wsL_compose) B.pre
  have hown : s.vm.findClass RL = some m.cls := findClass_of_methodNamed B.named
  have hlocks := B.notSynchronized
  have htab : c.exceptionTable.toList = tableOf [(0, 10, 13, 25), (0, 10, 17, 13), (0, 10, 21, 15)] := vx_table (x := yL_compose) B (hts _ List.mem_cons_self)
  have hRc : (headSpec wsL_compose RmH).room.cells = 5 := rfl
  have hRs : (headSpec wsL_compose RmH).room.slots = 1607 := rfl
  have hW : Wd D S0 ((ol, la cs f) :: XW cs a u sg Y) s.heap := hW
  have hS : va_S (SA S0) s.heap s.heap [] := va_S.rf
  have hl := lv_entry ([.ref (a 0), .int p0, .int p1, .ref ol]) (n := 5) (Nat.le_of_ble_eq_true rfl)
  rw [lg_entry_eq]
  generalize (lg_sl ([.ref (a 0), .int p0, .int p1, .ref ol]) ++ List.replicate (5 - (lg_sl ([.ref (a 0), .int p0, .int p1, .ref ol])).length) Slot.unset).toArray = ls at hl ⊢
  have hl : lv_has ls 5 [(0, .ref (a 0)), (1, .int p0), (2, .int p1), (3, .ref ol)] := hl
  refine lv_aload_n hx hb dL_compose_0 rfl (lv_at hl 3 rfl) ?_
  refine lv_iconst (v := nI 0) hx hb dL_compose_1 (by decide) ?_
  refine lv_aload_n hx hb dL_compose_2 rfl (lv_at hl 0 rfl) ?_
  refine lv_iload_n hx hb dL_compose_3 rfl (lv_at hl 1 rfl) ?_
  refine lv_iload_n hx hb dL_compose_4 rfl (lv_at hl 2 rfl) ?_
  have hW2 : Wd D S0 (XW cs a u sg ((ol, la cs f) :: Y)) s.heap := XW.push hW
  have hF2 : XF cs ea u sg ((ol, la cs f) :: Y) := hF.more (fun q9 h9 => List.mem_cons_of_mem _ h9)
  have hPH2 := XH.of (D := D) hW2 hF2
  refine z_cat (vx_runV (As := [.int p0, .int p1]) (rest := [.int (nI 0), .ref ol]) ⟨hx, hb, hml, hown, hts⟩ hM (cwV 2 hts gL_compose_X2_compose rfl rfl rfl (by decide +kernel) ⟨Nat.le_of_ble_eq_true rfl, Nat.le_of_ble_eq_true rfl⟩) ⟨zE_blind, z_recv hK (hW2.1 0 _ rfl) rfl, zE_pre hPH2 hK hE va_S.rf⟩ rfl rfl hl.1 rfl (lv_room (Nat.le_of_ble_eq_true rfl)) dL_compose_5 ⟨Nat.le_of_ble_eq_true rfl, Nat.le_of_ble_eq_true rfl⟩) (fun H q8 ce hz9 hk9 hq1 hq2 hq3 => ?_)
  have hW : Wd D S0 ((ol, la cs f) :: XW cs a u sg Y) H := hW.kept hz9 hk9
  have hS : va_S (SA S0) s.heap H [] := ⟨hz9, fun q9 h9 _ => hk9 q9 h9, fun q9 h9 => absurd h9 List.not_mem_nil⟩
  refine vx_catch (name := eIA) hown [⟨0, 10, 13, 25⟩] ⟨0, 10, 17, 13⟩ [⟨0, 10, 21, 15⟩] htab (fun z9 h9 => by
      rw [List.mem_singleton.mp h9]
      exact Or.inr ⟨by decide, eIO, hts (.classLink RL 25 eIO) (by decide +kernel), hN.1⟩) (by decide) (by decide) (hts (.classLink RL 13 eIA) (by decide +kernel)) (va_Nw.use rfl (hE.2.2.2.2.1 (eIA, eIA) (by decide))) hq1 hq2 hq3 ?_
  refine lv_astore (lv' := [(4, .ref q8), (0, .ref (a 0)), (1, .int p0), (2, .int p1), (3, .ref ol)]) hx hb dL_compose_17 hl (by decide) rfl (fun ls hl => ?_)
  refine lv_iconst (v := nI 2) hx hb dL_compose_19 (by decide) ?_
  refine W.widen (k := 5) (n := 1607) (by omega) (by omega) ?_
  exact W.iret (v := nI 2) hx hb hr (fun t ht hW9 => ⟨⟨_, (u, [], f), rfl, ⟨rfl, fun h9 => absurd h9 (by decide), hF⟩, (by show Wd D S0 _ _; rw [ht]; exact hW)⟩, hS.F ht⟩) (fun q9 h9 => hS.2.2 q9 h9) dL_compose_20

set_option maxHeartbeats 4000000 in
set_option maxRecDepth 100000 in
theorem h_compose_IS (l : Launch) (D : va_G) (cs : Nat → ClassId) (S0 ea mi : Nat) (sa : Nat → Nat) (Y : va_W) (a : Nat → Nat) (u : XU) (sg : St) (hF : XF cs ea u sg Y) (ol : Nat) (f : Nat → Int64) (p0 : Int32) (p1 : Int32) (R9 : Int64) (hM : vT l yX2_compose wsX2_compose RmT (zE [.ref (a 0), .int p0, .int p1] (fun H => XH D cs a u sg H) D cs S0 ea mi sa) eIS) : hOK l D cs S0 ea mi sa Y a u sg ol f yL_compose wsL_compose [.ref (a 0), .int p0, .int p1, .ref ol] 3 R9 sg := by
  refine z_ofWH (cc := cL_compose) (maxL := 5) (ret := (some .int)) (hh := [(0, 10, 13, 25), (0, 10, 17, 13), (0, 10, 21, 15)]) (by decide) rfl ?_
  intro p e s m args below meth c s₁ B hml hv
  obtain ⟨⟨rfl, hW, hK, hE⟩, hN⟩ := hv
  have hx := B.exec
  have hb := B.bytes
  have hr := B.returns
  have hts := atoms_spec (ws := wsL_compose) B.pre
  have hown : s.vm.findClass RL = some m.cls := findClass_of_methodNamed B.named
  have hlocks := B.notSynchronized
  have htab : c.exceptionTable.toList = tableOf [(0, 10, 13, 25), (0, 10, 17, 13), (0, 10, 21, 15)] := vx_table (x := yL_compose) B (hts _ List.mem_cons_self)
  have hRc : (headSpec wsL_compose RmH).room.cells = 5 := rfl
  have hRs : (headSpec wsL_compose RmH).room.slots = 1607 := rfl
  have hW : Wd D S0 ((ol, la cs f) :: XW cs a u sg Y) s.heap := hW
  have hS : va_S (SA S0) s.heap s.heap [] := va_S.rf
  have hl := lv_entry ([.ref (a 0), .int p0, .int p1, .ref ol]) (n := 5) (Nat.le_of_ble_eq_true rfl)
  rw [lg_entry_eq]
  generalize (lg_sl ([.ref (a 0), .int p0, .int p1, .ref ol]) ++ List.replicate (5 - (lg_sl ([.ref (a 0), .int p0, .int p1, .ref ol])).length) Slot.unset).toArray = ls at hl ⊢
  have hl : lv_has ls 5 [(0, .ref (a 0)), (1, .int p0), (2, .int p1), (3, .ref ol)] := hl
  refine lv_aload_n hx hb dL_compose_0 rfl (lv_at hl 3 rfl) ?_
  refine lv_iconst (v := nI 0) hx hb dL_compose_1 (by decide) ?_
  refine lv_aload_n hx hb dL_compose_2 rfl (lv_at hl 0 rfl) ?_
  refine lv_iload_n hx hb dL_compose_3 rfl (lv_at hl 1 rfl) ?_
  refine lv_iload_n hx hb dL_compose_4 rfl (lv_at hl 2 rfl) ?_
  have hW2 : Wd D S0 (XW cs a u sg ((ol, la cs f) :: Y)) s.heap := XW.push hW
  have hF2 : XF cs ea u sg ((ol, la cs f) :: Y) := hF.more (fun q9 h9 => List.mem_cons_of_mem _ h9)
  have hPH2 := XH.of (D := D) hW2 hF2
  refine z_cat (vx_runV (As := [.int p0, .int p1]) (rest := [.int (nI 0), .ref ol]) ⟨hx, hb, hml, hown, hts⟩ hM (cwV 2 hts gL_compose_X2_compose rfl rfl rfl (by decide +kernel) ⟨Nat.le_of_ble_eq_true rfl, Nat.le_of_ble_eq_true rfl⟩) ⟨zE_blind, z_recv hK (hW2.1 0 _ rfl) rfl, zE_pre hPH2 hK hE va_S.rf⟩ rfl rfl hl.1 rfl (lv_room (Nat.le_of_ble_eq_true rfl)) dL_compose_5 ⟨Nat.le_of_ble_eq_true rfl, Nat.le_of_ble_eq_true rfl⟩) (fun H q8 ce hz9 hk9 hq1 hq2 hq3 => ?_)
  have hW : Wd D S0 ((ol, la cs f) :: XW cs a u sg Y) H := hW.kept hz9 hk9
  have hS : va_S (SA S0) s.heap H [] := ⟨hz9, fun q9 h9 _ => hk9 q9 h9, fun q9 h9 => absurd h9 List.not_mem_nil⟩
  refine vx_catch (name := eIS) hown [⟨0, 10, 13, 25⟩, ⟨0, 10, 17, 13⟩] ⟨0, 10, 21, 15⟩ [] htab (fun z9 h9 => by
      rcases List.mem_cons.mp h9 with h9 | h9
      · rw [h9]; exact Or.inr ⟨by decide, eIO, hts (.classLink RL 25 eIO) (by decide +kernel), hN.2.1⟩
      · rw [List.mem_singleton.mp h9]; exact Or.inr ⟨by decide, eIA, hts (.classLink RL 13 eIA) (by decide +kernel), hN.2.2⟩) (by decide) (by decide) (hts (.classLink RL 15 eIS) (by decide +kernel)) (va_Nw.use rfl (hE.2.2.2.2.1 (eIS, eIS) (by decide))) hq1 hq2 hq3 ?_
  refine lv_astore (lv' := [(4, .ref q8), (0, .ref (a 0)), (1, .int p0), (2, .int p1), (3, .ref ol)]) hx hb dL_compose_21 hl (by decide) rfl (fun ls hl => ?_)
  refine lv_iconst (v := nI 3) hx hb dL_compose_23 (by decide) ?_
  refine W.widen (k := 5) (n := 1607) (by omega) (by omega) ?_
  exact W.iret (v := nI 3) hx hb hr (fun t ht hW9 => ⟨⟨_, (u, [], f), rfl, ⟨rfl, fun h9 => absurd h9 (by decide), hF⟩, (by show Wd D S0 _ _; rw [ht]; exact hW)⟩, hS.F ht⟩) (fun q9 h9 => hS.2.2 q9 h9) dL_compose_24

set_option maxHeartbeats 4000000 in
set_option maxRecDepth 100000 in
theorem h_instructions_ok (l : Launch) (D : va_G) (cs : Nat → ClassId) (S0 ea mi : Nat) (sa : Nat → Nat) (Y : va_W) (a : Nat → Nat) (u : XU) (sg : St) (hF : XF cs ea u sg Y) (ol : Nat) (f : Nat → Int64) (p0 : Int32) (R9 : Int32) (τ : St) (hM : xOK l D cs S0 ea mi sa ((ol, la cs f) :: Y) a u sg yX2_instructions wsX2_instructions [.ref (a 0), .int p0] R9 τ) : hOK l D cs S0 ea mi sa Y a u sg ol f yL_instructions wsL_instructions [.ref (a 0), .int p0, .ref ol] 0 R9.toInt64 τ := by
  refine z_ofWH (cc := cL_instructions) (maxL := 4) (ret := (some .int)) (hh := [(0, 9, 12, 25)]) (by decide) rfl ?_
  intro p e s m args below meth c s₁ B hml hv
  obtain ⟨⟨rfl, hW, hK, hE⟩, hN⟩ := hv
  have hx := B.exec
  have hb := B.bytes
  have hr := B.returns
  have hts := atoms_spec (ws := wsL_instructions) B.pre
  have hown : s.vm.findClass RL = some m.cls := findClass_of_methodNamed B.named
  have hlocks := B.notSynchronized
  have hRc : (headSpec wsL_instructions RmH).room.cells = 5 := rfl
  have hRs : (headSpec wsL_instructions RmH).room.slots = 1607 := rfl
  have hW : Wd D S0 ((ol, la cs f) :: XW cs a u sg Y) s.heap := hW
  have hS : va_S (SA S0) s.heap s.heap [] := va_S.rf
  have hl := lv_entry ([.ref (a 0), .int p0, .ref ol]) (n := 4) (Nat.le_of_ble_eq_true rfl)
  rw [lg_entry_eq]
  generalize (lg_sl ([.ref (a 0), .int p0, .ref ol]) ++ List.replicate (4 - (lg_sl ([.ref (a 0), .int p0, .ref ol])).length) Slot.unset).toArray = ls at hl ⊢
  have hl : lv_has ls 4 [(0, .ref (a 0)), (1, .int p0), (2, .ref ol)] := hl
  refine lv_aload_n hx hb dL_instructions_0 rfl (lv_at hl 2 rfl) ?_
  refine lv_iconst (v := nI 0) hx hb dL_instructions_1 (by decide) ?_
  refine lv_aload_n hx hb dL_instructions_2 rfl (lv_at hl 0 rfl) ?_
  refine lv_iload_n hx hb dL_instructions_3 rfl (lv_at hl 1 rfl) ?_
  have hW2 : Wd D S0 (XW cs a u sg ((ol, la cs f) :: Y)) s.heap := XW.push hW
  have hF2 : XF cs ea u sg ((ol, la cs f) :: Y) := hF.more (fun q9 h9 => List.mem_cons_of_mem _ h9)
  refine z_cmI (va_runV (As := [.int p0]) (rest := [.int (nI 0), .ref ol]) ⟨hx, hb, hml, hown, hts⟩ hM (cwV 1 hts gL_instructions_X2_instructions rfl rfl rfl (by decide +kernel) ⟨Nat.le_of_ble_eq_true rfl, Nat.le_of_ble_eq_true rfl⟩) ⟨zE_blind, z_recv hK (hW2.1 0 _ rfl) rfl, zE_pre hW2 hK hE hS⟩ rfl rfl hl.1 rfl (lv_room (Nat.le_of_ble_eq_true rfl)) dL_instructions_4 ⟨Nat.le_of_ble_eq_true rfl, Nat.le_of_ble_eq_true rfl⟩) hS (fun r v H locs hu hW hS => ?_)
  obtain ⟨hu1, hu2⟩ := hu
  rw [hu1]
  have hW := XW.pull hW
  have hF3 : XF cs ea v.1 τ (v.2 ++ Y) := hu2.sel (sel_drop (A := [(ol, la cs f)]) (fun q9 h9 => by rw [List.mem_singleton.mp h9]; exact okE_la))
  have hW : Wd D S0 ((ol, la cs f) :: XW cs a v.1 τ (v.2 ++ Y)) H := hW
  refine lv_i2l (v := R9.toInt64) hx hb dL_instructions_7 rfl ?_
  refine z_last hx hb hK hW hS dL_instructions_8 (fun H locs g9 hg9 hW hS => ?_)
  have hW : Wd D S0 ((ol, la cs g9) :: XW cs a v.1 τ (v.2 ++ Y)) H := hW
  refine lv_goto (tgt := 15) hx hb dL_instructions_9 (by decide) ?_
  refine lv_iconst (v := nI 0) hx hb dL_instructions_15 (by decide) ?_
  refine W.widen (k := 5) (n := 1607) (by omega) (by omega) ?_
  exact W.iret (v := nI 0) hx hb hr (fun t ht hW9 => ⟨⟨_, (v.1, v.2, g9), rfl, ⟨rfl, fun _ => hg9, hF3⟩, (by show Wd D S0 _ _; rw [ht]; exact hW)⟩, hS.F ht⟩) (fun q9 h9 => hS.2.2 q9 h9) dL_instructions_16

set_option maxHeartbeats 4000000 in
set_option maxRecDepth 100000 in
theorem h_instructions_IO (l : Launch) (D : va_G) (cs : Nat → ClassId) (S0 ea mi : Nat) (sa : Nat → Nat) (Y : va_W) (a : Nat → Nat) (u : XU) (sg : St) (hF : XF cs ea u sg Y) (ol : Nat) (f : Nat → Int64) (p0 : Int32) (R9 : Int64) (hM : vT l yX2_instructions wsX2_instructions RmT (zE [.ref (a 0), .int p0] (fun H => XH D cs a u sg H) D cs S0 ea mi sa) eIO) : hOK l D cs S0 ea mi sa Y a u sg ol f yL_instructions wsL_instructions [.ref (a 0), .int p0, .ref ol] 1 R9 sg := by
  refine z_ofWH (cc := cL_instructions) (maxL := 4) (ret := (some .int)) (hh := [(0, 9, 12, 25)]) (by decide) rfl ?_
  intro p e s m args below meth c s₁ B hml hv
  obtain ⟨⟨rfl, hW, hK, hE⟩, hN⟩ := hv
  have hx := B.exec
  have hb := B.bytes
  have hr := B.returns
  have hts := atoms_spec (ws := wsL_instructions) B.pre
  have hown : s.vm.findClass RL = some m.cls := findClass_of_methodNamed B.named
  have hlocks := B.notSynchronized
  have htab : c.exceptionTable.toList = tableOf [(0, 9, 12, 25)] := vx_table (x := yL_instructions) B (hts _ List.mem_cons_self)
  have hRc : (headSpec wsL_instructions RmH).room.cells = 5 := rfl
  have hRs : (headSpec wsL_instructions RmH).room.slots = 1607 := rfl
  have hW : Wd D S0 ((ol, la cs f) :: XW cs a u sg Y) s.heap := hW
  have hS : va_S (SA S0) s.heap s.heap [] := va_S.rf
  have hl := lv_entry ([.ref (a 0), .int p0, .ref ol]) (n := 4) (Nat.le_of_ble_eq_true rfl)
  rw [lg_entry_eq]
  generalize (lg_sl ([.ref (a 0), .int p0, .ref ol]) ++ List.replicate (4 - (lg_sl ([.ref (a 0), .int p0, .ref ol])).length) Slot.unset).toArray = ls at hl ⊢
  have hl : lv_has ls 4 [(0, .ref (a 0)), (1, .int p0), (2, .ref ol)] := hl
  refine lv_aload_n hx hb dL_instructions_0 rfl (lv_at hl 2 rfl) ?_
  refine lv_iconst (v := nI 0) hx hb dL_instructions_1 (by decide) ?_
  refine lv_aload_n hx hb dL_instructions_2 rfl (lv_at hl 0 rfl) ?_
  refine lv_iload_n hx hb dL_instructions_3 rfl (lv_at hl 1 rfl) ?_
  have hW2 : Wd D S0 (XW cs a u sg ((ol, la cs f) :: Y)) s.heap := XW.push hW
  have hF2 : XF cs ea u sg ((ol, la cs f) :: Y) := hF.more (fun q9 h9 => List.mem_cons_of_mem _ h9)
  have hPH2 := XH.of (D := D) hW2 hF2
  refine z_cat (vx_runV (As := [.int p0]) (rest := [.int (nI 0), .ref ol]) ⟨hx, hb, hml, hown, hts⟩ hM (cwV 1 hts gL_instructions_X2_instructions rfl rfl rfl (by decide +kernel) ⟨Nat.le_of_ble_eq_true rfl, Nat.le_of_ble_eq_true rfl⟩) ⟨zE_blind, z_recv hK (hW2.1 0 _ rfl) rfl, zE_pre hPH2 hK hE va_S.rf⟩ rfl rfl hl.1 rfl (lv_room (Nat.le_of_ble_eq_true rfl)) dL_instructions_4 ⟨Nat.le_of_ble_eq_true rfl, Nat.le_of_ble_eq_true rfl⟩) (fun H q8 ce hz9 hk9 hq1 hq2 hq3 => ?_)
  have hW : Wd D S0 ((ol, la cs f) :: XW cs a u sg Y) H := hW.kept hz9 hk9
  have hS : va_S (SA S0) s.heap H [] := ⟨hz9, fun q9 h9 _ => hk9 q9 h9, fun q9 h9 => absurd h9 List.not_mem_nil⟩
  refine vx_catch (name := eIO) hown [] ⟨0, 9, 12, 25⟩ [] htab (fun z9 h9 => absurd h9 List.not_mem_nil) (by decide) (by decide) (hts (.classLink RL 25 eIO) (by decide +kernel)) (va_Nw.use rfl (hE.2.2.2.2.1 (eIO, eIO) (by decide))) hq1 hq2 hq3 ?_
  refine lv_astore_n (lv' := [(3, .ref q8), (0, .ref (a 0)), (1, .int p0), (2, .ref ol)]) hx hb dL_instructions_12 rfl hl (by decide) rfl (fun ls hl => ?_)
  refine lv_iconst (v := nI 1) hx hb dL_instructions_13 (by decide) ?_
  refine W.widen (k := 5) (n := 1607) (by omega) (by omega) ?_
  exact W.iret (v := nI 1) hx hb hr (fun t ht hW9 => ⟨⟨_, (u, [], f), rfl, ⟨rfl, fun h9 => absurd h9 (by decide), hF⟩, (by show Wd D S0 _ _; rw [ht]; exact hW)⟩, hS.F ht⟩) (fun q9 h9 => hS.2.2 q9 h9) dL_instructions_14

set_option maxHeartbeats 4000000 in
set_option maxRecDepth 100000 in
theorem h_instruction_ok (l : Launch) (D : va_G) (cs : Nat → ClassId) (S0 ea mi : Nat) (sa : Nat → Nat) (Y : va_W) (a : Nat → Nat) (u : XU) (sg : St) (hF : XF cs ea u sg Y) (ol : Nat) (f : Nat → Int64) (p0 : Int32) (p1 : Int32) (p2 : Int32) (R9 : Int32) (τ : St) (hM : xOK l D cs S0 ea mi sa ((ol, la cs f) :: Y) a u sg yX2_instruction wsX2_instruction [.ref (a 0), .int p0, .int p1, .int p2] R9 τ) : hOK l D cs S0 ea mi sa Y a u sg ol f yL_instruction wsL_instruction [.ref (a 0), .int p0, .int p1, .int p2, .ref ol] 0 R9.toInt64 τ := by
  refine z_ofWH (cc := cL_instruction) (maxL := 6) (ret := (some .int)) (hh := [(0, 12, 15, 25)]) (by decide) rfl ?_
  intro p e s m args below meth c s₁ B hml hv
  obtain ⟨⟨rfl, hW, hK, hE⟩, hN⟩ := hv
  have hx := B.exec
  have hb := B.bytes
  have hr := B.returns
  have hts := atoms_spec (ws := wsL_instruction) B.pre
  have hown : s.vm.findClass RL = some m.cls := findClass_of_methodNamed B.named
  have hlocks := B.notSynchronized
  have hRc : (headSpec wsL_instruction RmH).room.cells = 5 := rfl
  have hRs : (headSpec wsL_instruction RmH).room.slots = 1607 := rfl
  have hW : Wd D S0 ((ol, la cs f) :: XW cs a u sg Y) s.heap := hW
  have hS : va_S (SA S0) s.heap s.heap [] := va_S.rf
  have hl := lv_entry ([.ref (a 0), .int p0, .int p1, .int p2, .ref ol]) (n := 6) (Nat.le_of_ble_eq_true rfl)
  rw [lg_entry_eq]
  generalize (lg_sl ([.ref (a 0), .int p0, .int p1, .int p2, .ref ol]) ++ List.replicate (6 - (lg_sl ([.ref (a 0), .int p0, .int p1, .int p2, .ref ol])).length) Slot.unset).toArray = ls at hl ⊢
  have hl : lv_has ls 6 [(0, .ref (a 0)), (1, .int p0), (2, .int p1), (3, .int p2), (4, .ref ol)] := hl
  refine lv_aload hx hb dL_instruction_0 (lv_at hl 4 rfl) ?_
  refine lv_iconst (v := nI 0) hx hb dL_instruction_2 (by decide) ?_
  refine lv_aload_n hx hb dL_instruction_3 rfl (lv_at hl 0 rfl) ?_
  refine lv_iload_n hx hb dL_instruction_4 rfl (lv_at hl 1 rfl) ?_
  refine lv_iload_n hx hb dL_instruction_5 rfl (lv_at hl 2 rfl) ?_
  refine lv_iload_n hx hb dL_instruction_6 rfl (lv_at hl 3 rfl) ?_
  have hW2 : Wd D S0 (XW cs a u sg ((ol, la cs f) :: Y)) s.heap := XW.push hW
  have hF2 : XF cs ea u sg ((ol, la cs f) :: Y) := hF.more (fun q9 h9 => List.mem_cons_of_mem _ h9)
  refine z_cmI (va_runV (As := [.int p0, .int p1, .int p2]) (rest := [.int (nI 0), .ref ol]) ⟨hx, hb, hml, hown, hts⟩ hM (cwV 3 hts gL_instruction_X2_instruction rfl rfl rfl (by decide +kernel) ⟨Nat.le_of_ble_eq_true rfl, Nat.le_of_ble_eq_true rfl⟩) ⟨zE_blind, z_recv hK (hW2.1 0 _ rfl) rfl, zE_pre hW2 hK hE hS⟩ rfl rfl hl.1 rfl (lv_room (Nat.le_of_ble_eq_true rfl)) dL_instruction_7 ⟨Nat.le_of_ble_eq_true rfl, Nat.le_of_ble_eq_true rfl⟩) hS (fun r v H locs hu hW hS => ?_)
  obtain ⟨hu1, hu2⟩ := hu
  rw [hu1]
  have hW := XW.pull hW
  have hF3 : XF cs ea v.1 τ (v.2 ++ Y) := hu2.sel (sel_drop (A := [(ol, la cs f)]) (fun q9 h9 => by rw [List.mem_singleton.mp h9]; exact okE_la))
  have hW : Wd D S0 ((ol, la cs f) :: XW cs a v.1 τ (v.2 ++ Y)) H := hW
  refine lv_i2l (v := R9.toInt64) hx hb dL_instruction_10 rfl ?_
  refine z_last hx hb hK hW hS dL_instruction_11 (fun H locs g9 hg9 hW hS => ?_)
  have hW : Wd D S0 ((ol, la cs g9) :: XW cs a v.1 τ (v.2 ++ Y)) H := hW
  refine lv_goto (tgt := 19) hx hb dL_instruction_12 (by decide) ?_
  refine lv_iconst (v := nI 0) hx hb dL_instruction_19 (by decide) ?_
  refine W.widen (k := 5) (n := 1607) (by omega) (by omega) ?_
  exact W.iret (v := nI 0) hx hb hr (fun t ht hW9 => ⟨⟨_, (v.1, v.2, g9), rfl, ⟨rfl, fun _ => hg9, hF3⟩, (by show Wd D S0 _ _; rw [ht]; exact hW)⟩, hS.F ht⟩) (fun q9 h9 => hS.2.2 q9 h9) dL_instruction_20

set_option maxHeartbeats 4000000 in
set_option maxRecDepth 100000 in
theorem h_instruction_IO (l : Launch) (D : va_G) (cs : Nat → ClassId) (S0 ea mi : Nat) (sa : Nat → Nat) (Y : va_W) (a : Nat → Nat) (u : XU) (sg : St) (hF : XF cs ea u sg Y) (ol : Nat) (f : Nat → Int64) (p0 : Int32) (p1 : Int32) (p2 : Int32) (R9 : Int64) (hM : vT l yX2_instruction wsX2_instruction RmT (zE [.ref (a 0), .int p0, .int p1, .int p2] (fun H => XH D cs a u sg H) D cs S0 ea mi sa) eIO) : hOK l D cs S0 ea mi sa Y a u sg ol f yL_instruction wsL_instruction [.ref (a 0), .int p0, .int p1, .int p2, .ref ol] 1 R9 sg := by
  refine z_ofWH (cc := cL_instruction) (maxL := 6) (ret := (some .int)) (hh := [(0, 12, 15, 25)]) (by decide) rfl ?_
  intro p e s m args below meth c s₁ B hml hv
  obtain ⟨⟨rfl, hW, hK, hE⟩, hN⟩ := hv
  have hx := B.exec
  have hb := B.bytes
  have hr := B.returns
  have hts := atoms_spec (ws := wsL_instruction) B.pre
  have hown : s.vm.findClass RL = some m.cls := findClass_of_methodNamed B.named
  have hlocks := B.notSynchronized
  have htab : c.exceptionTable.toList = tableOf [(0, 12, 15, 25)] := vx_table (x := yL_instruction) B (hts _ List.mem_cons_self)
  have hRc : (headSpec wsL_instruction RmH).room.cells = 5 := rfl
  have hRs : (headSpec wsL_instruction RmH).room.slots = 1607 := rfl
  have hW : Wd D S0 ((ol, la cs f) :: XW cs a u sg Y) s.heap := hW
  have hS : va_S (SA S0) s.heap s.heap [] := va_S.rf
  have hl := lv_entry ([.ref (a 0), .int p0, .int p1, .int p2, .ref ol]) (n := 6) (Nat.le_of_ble_eq_true rfl)
  rw [lg_entry_eq]
  generalize (lg_sl ([.ref (a 0), .int p0, .int p1, .int p2, .ref ol]) ++ List.replicate (6 - (lg_sl ([.ref (a 0), .int p0, .int p1, .int p2, .ref ol])).length) Slot.unset).toArray = ls at hl ⊢
  have hl : lv_has ls 6 [(0, .ref (a 0)), (1, .int p0), (2, .int p1), (3, .int p2), (4, .ref ol)] := hl
  refine lv_aload hx hb dL_instruction_0 (lv_at hl 4 rfl) ?_
  refine lv_iconst (v := nI 0) hx hb dL_instruction_2 (by decide) ?_
  refine lv_aload_n hx hb dL_instruction_3 rfl (lv_at hl 0 rfl) ?_
  refine lv_iload_n hx hb dL_instruction_4 rfl (lv_at hl 1 rfl) ?_
  refine lv_iload_n hx hb dL_instruction_5 rfl (lv_at hl 2 rfl) ?_
  refine lv_iload_n hx hb dL_instruction_6 rfl (lv_at hl 3 rfl) ?_
  have hW2 : Wd D S0 (XW cs a u sg ((ol, la cs f) :: Y)) s.heap := XW.push hW
  have hF2 : XF cs ea u sg ((ol, la cs f) :: Y) := hF.more (fun q9 h9 => List.mem_cons_of_mem _ h9)
  have hPH2 := XH.of (D := D) hW2 hF2
  refine z_cat (vx_runV (As := [.int p0, .int p1, .int p2]) (rest := [.int (nI 0), .ref ol]) ⟨hx, hb, hml, hown, hts⟩ hM (cwV 3 hts gL_instruction_X2_instruction rfl rfl rfl (by decide +kernel) ⟨Nat.le_of_ble_eq_true rfl, Nat.le_of_ble_eq_true rfl⟩) ⟨zE_blind, z_recv hK (hW2.1 0 _ rfl) rfl, zE_pre hPH2 hK hE va_S.rf⟩ rfl rfl hl.1 rfl (lv_room (Nat.le_of_ble_eq_true rfl)) dL_instruction_7 ⟨Nat.le_of_ble_eq_true rfl, Nat.le_of_ble_eq_true rfl⟩) (fun H q8 ce hz9 hk9 hq1 hq2 hq3 => ?_)
  have hW : Wd D S0 ((ol, la cs f) :: XW cs a u sg Y) H := hW.kept hz9 hk9
  have hS : va_S (SA S0) s.heap H [] := ⟨hz9, fun q9 h9 _ => hk9 q9 h9, fun q9 h9 => absurd h9 List.not_mem_nil⟩
  refine vx_catch (name := eIO) hown [] ⟨0, 12, 15, 25⟩ [] htab (fun z9 h9 => absurd h9 List.not_mem_nil) (by decide) (by decide) (hts (.classLink RL 25 eIO) (by decide +kernel)) (va_Nw.use rfl (hE.2.2.2.2.1 (eIO, eIO) (by decide))) hq1 hq2 hq3 ?_
  refine lv_astore (lv' := [(5, .ref q8), (0, .ref (a 0)), (1, .int p0), (2, .int p1), (3, .int p2), (4, .ref ol)]) hx hb dL_instruction_15 hl (by decide) rfl (fun ls hl => ?_)
  refine lv_iconst (v := nI 1) hx hb dL_instruction_17 (by decide) ?_
  refine W.widen (k := 5) (n := 1607) (by omega) (by omega) ?_
  exact W.iret (v := nI 1) hx hb hr (fun t ht hW9 => ⟨⟨_, (u, [], f), rfl, ⟨rfl, fun h9 => absurd h9 (by decide), hF⟩, (by show Wd D S0 _ _; rw [ht]; exact hW)⟩, hS.F ht⟩) (fun q9 h9 => hS.2.2 q9 h9) dL_instruction_18

set_option maxHeartbeats 4000000 in
set_option maxRecDepth 100000 in
theorem h_cost_ok (l : Launch) (D : va_G) (cs : Nat → ClassId) (S0 ea mi : Nat) (sa : Nat → Nat) (Y : va_W) (a : Nat → Nat) (u : XU) (sg : St) (hF : XF cs ea u sg Y) (ol : Nat) (f : Nat → Int64) (p0 : Int32) (R9 : Int32) (τ : St) (hM : xOK l D cs S0 ea mi sa ((ol, la cs f) :: Y) a u sg yX2_cost wsX2_cost [.ref (a 0), .int p0] R9 τ) : hOK l D cs S0 ea mi sa Y a u sg ol f yL_cost wsL_cost [.ref (a 0), .int p0, .ref ol] 0 R9.toInt64 τ := by
  refine z_ofWH (cc := cL_cost) (maxL := 4) (ret := (some .int)) (hh := [(0, 9, 12, 25)]) (by decide) rfl ?_
  intro p e s m args below meth c s₁ B hml hv
  obtain ⟨⟨rfl, hW, hK, hE⟩, hN⟩ := hv
  have hx := B.exec
  have hb := B.bytes
  have hr := B.returns
  have hts := atoms_spec (ws := wsL_cost) B.pre
  have hown : s.vm.findClass RL = some m.cls := findClass_of_methodNamed B.named
  have hlocks := B.notSynchronized
  have hRc : (headSpec wsL_cost RmH).room.cells = 5 := rfl
  have hRs : (headSpec wsL_cost RmH).room.slots = 1607 := rfl
  have hW : Wd D S0 ((ol, la cs f) :: XW cs a u sg Y) s.heap := hW
  have hS : va_S (SA S0) s.heap s.heap [] := va_S.rf
  have hl := lv_entry ([.ref (a 0), .int p0, .ref ol]) (n := 4) (Nat.le_of_ble_eq_true rfl)
  rw [lg_entry_eq]
  generalize (lg_sl ([.ref (a 0), .int p0, .ref ol]) ++ List.replicate (4 - (lg_sl ([.ref (a 0), .int p0, .ref ol])).length) Slot.unset).toArray = ls at hl ⊢
  have hl : lv_has ls 4 [(0, .ref (a 0)), (1, .int p0), (2, .ref ol)] := hl
  refine lv_aload_n hx hb dL_cost_0 rfl (lv_at hl 2 rfl) ?_
  refine lv_iconst (v := nI 0) hx hb dL_cost_1 (by decide) ?_
  refine lv_aload_n hx hb dL_cost_2 rfl (lv_at hl 0 rfl) ?_
  refine lv_iload_n hx hb dL_cost_3 rfl (lv_at hl 1 rfl) ?_
  have hW2 : Wd D S0 (XW cs a u sg ((ol, la cs f) :: Y)) s.heap := XW.push hW
  have hF2 : XF cs ea u sg ((ol, la cs f) :: Y) := hF.more (fun q9 h9 => List.mem_cons_of_mem _ h9)
  refine z_cmI (va_runV (As := [.int p0]) (rest := [.int (nI 0), .ref ol]) ⟨hx, hb, hml, hown, hts⟩ hM (cwV 1 hts gL_cost_X2_cost rfl rfl rfl (by decide +kernel) ⟨Nat.le_of_ble_eq_true rfl, Nat.le_of_ble_eq_true rfl⟩) ⟨zE_blind, z_recv hK (hW2.1 0 _ rfl) rfl, zE_pre hW2 hK hE hS⟩ rfl rfl hl.1 rfl (lv_room (Nat.le_of_ble_eq_true rfl)) dL_cost_4 ⟨Nat.le_of_ble_eq_true rfl, Nat.le_of_ble_eq_true rfl⟩) hS (fun r v H locs hu hW hS => ?_)
  obtain ⟨hu1, hu2⟩ := hu
  rw [hu1]
  have hW := XW.pull hW
  have hF3 : XF cs ea v.1 τ (v.2 ++ Y) := hu2.sel (sel_drop (A := [(ol, la cs f)]) (fun q9 h9 => by rw [List.mem_singleton.mp h9]; exact okE_la))
  have hW : Wd D S0 ((ol, la cs f) :: XW cs a v.1 τ (v.2 ++ Y)) H := hW
  refine lv_i2l (v := R9.toInt64) hx hb dL_cost_7 rfl ?_
  refine z_last hx hb hK hW hS dL_cost_8 (fun H locs g9 hg9 hW hS => ?_)
  have hW : Wd D S0 ((ol, la cs g9) :: XW cs a v.1 τ (v.2 ++ Y)) H := hW
  refine lv_goto (tgt := 15) hx hb dL_cost_9 (by decide) ?_
  refine lv_iconst (v := nI 0) hx hb dL_cost_15 (by decide) ?_
  refine W.widen (k := 5) (n := 1607) (by omega) (by omega) ?_
  exact W.iret (v := nI 0) hx hb hr (fun t ht hW9 => ⟨⟨_, (v.1, v.2, g9), rfl, ⟨rfl, fun _ => hg9, hF3⟩, (by show Wd D S0 _ _; rw [ht]; exact hW)⟩, hS.F ht⟩) (fun q9 h9 => hS.2.2 q9 h9) dL_cost_16

set_option maxHeartbeats 4000000 in
set_option maxRecDepth 100000 in
theorem h_cost_IO (l : Launch) (D : va_G) (cs : Nat → ClassId) (S0 ea mi : Nat) (sa : Nat → Nat) (Y : va_W) (a : Nat → Nat) (u : XU) (sg : St) (hF : XF cs ea u sg Y) (ol : Nat) (f : Nat → Int64) (p0 : Int32) (R9 : Int64) (hM : vT l yX2_cost wsX2_cost RmT (zE [.ref (a 0), .int p0] (fun H => XH D cs a u sg H) D cs S0 ea mi sa) eIO) : hOK l D cs S0 ea mi sa Y a u sg ol f yL_cost wsL_cost [.ref (a 0), .int p0, .ref ol] 1 R9 sg := by
  refine z_ofWH (cc := cL_cost) (maxL := 4) (ret := (some .int)) (hh := [(0, 9, 12, 25)]) (by decide) rfl ?_
  intro p e s m args below meth c s₁ B hml hv
  obtain ⟨⟨rfl, hW, hK, hE⟩, hN⟩ := hv
  have hx := B.exec
  have hb := B.bytes
  have hr := B.returns
  have hts := atoms_spec (ws := wsL_cost) B.pre
  have hown : s.vm.findClass RL = some m.cls := findClass_of_methodNamed B.named
  have hlocks := B.notSynchronized
  have htab : c.exceptionTable.toList = tableOf [(0, 9, 12, 25)] := vx_table (x := yL_cost) B (hts _ List.mem_cons_self)
  have hRc : (headSpec wsL_cost RmH).room.cells = 5 := rfl
  have hRs : (headSpec wsL_cost RmH).room.slots = 1607 := rfl
  have hW : Wd D S0 ((ol, la cs f) :: XW cs a u sg Y) s.heap := hW
  have hS : va_S (SA S0) s.heap s.heap [] := va_S.rf
  have hl := lv_entry ([.ref (a 0), .int p0, .ref ol]) (n := 4) (Nat.le_of_ble_eq_true rfl)
  rw [lg_entry_eq]
  generalize (lg_sl ([.ref (a 0), .int p0, .ref ol]) ++ List.replicate (4 - (lg_sl ([.ref (a 0), .int p0, .ref ol])).length) Slot.unset).toArray = ls at hl ⊢
  have hl : lv_has ls 4 [(0, .ref (a 0)), (1, .int p0), (2, .ref ol)] := hl
  refine lv_aload_n hx hb dL_cost_0 rfl (lv_at hl 2 rfl) ?_
  refine lv_iconst (v := nI 0) hx hb dL_cost_1 (by decide) ?_
  refine lv_aload_n hx hb dL_cost_2 rfl (lv_at hl 0 rfl) ?_
  refine lv_iload_n hx hb dL_cost_3 rfl (lv_at hl 1 rfl) ?_
  have hW2 : Wd D S0 (XW cs a u sg ((ol, la cs f) :: Y)) s.heap := XW.push hW
  have hF2 : XF cs ea u sg ((ol, la cs f) :: Y) := hF.more (fun q9 h9 => List.mem_cons_of_mem _ h9)
  have hPH2 := XH.of (D := D) hW2 hF2
  refine z_cat (vx_runV (As := [.int p0]) (rest := [.int (nI 0), .ref ol]) ⟨hx, hb, hml, hown, hts⟩ hM (cwV 1 hts gL_cost_X2_cost rfl rfl rfl (by decide +kernel) ⟨Nat.le_of_ble_eq_true rfl, Nat.le_of_ble_eq_true rfl⟩) ⟨zE_blind, z_recv hK (hW2.1 0 _ rfl) rfl, zE_pre hPH2 hK hE va_S.rf⟩ rfl rfl hl.1 rfl (lv_room (Nat.le_of_ble_eq_true rfl)) dL_cost_4 ⟨Nat.le_of_ble_eq_true rfl, Nat.le_of_ble_eq_true rfl⟩) (fun H q8 ce hz9 hk9 hq1 hq2 hq3 => ?_)
  have hW : Wd D S0 ((ol, la cs f) :: XW cs a u sg Y) H := hW.kept hz9 hk9
  have hS : va_S (SA S0) s.heap H [] := ⟨hz9, fun q9 h9 _ => hk9 q9 h9, fun q9 h9 => absurd h9 List.not_mem_nil⟩
  refine vx_catch (name := eIO) hown [] ⟨0, 9, 12, 25⟩ [] htab (fun z9 h9 => absurd h9 List.not_mem_nil) (by decide) (by decide) (hts (.classLink RL 25 eIO) (by decide +kernel)) (va_Nw.use rfl (hE.2.2.2.2.1 (eIO, eIO) (by decide))) hq1 hq2 hq3 ?_
  refine lv_astore_n (lv' := [(3, .ref q8), (0, .ref (a 0)), (1, .int p0), (2, .ref ol)]) hx hb dL_cost_12 rfl hl (by decide) rfl (fun ls hl => ?_)
  refine lv_iconst (v := nI 1) hx hb dL_cost_13 (by decide) ?_
  refine W.widen (k := 5) (n := 1607) (by omega) (by omega) ?_
  exact W.iret (v := nI 1) hx hb hr (fun t ht hW9 => ⟨⟨_, (u, [], f), rfl, ⟨rfl, fun h9 => absurd h9 (by decide), hF⟩, (by show Wd D S0 _ _; rw [ht]; exact hW)⟩, hS.F ht⟩) (fun q9 h9 => hS.2.2 q9 h9) dL_cost_14

set_option maxHeartbeats 4000000 in
set_option maxRecDepth 100000 in
theorem h_newness_ok (l : Launch) (D : va_G) (cs : Nat → ClassId) (S0 ea mi : Nat) (sa : Nat → Nat) (Y : va_W) (a : Nat → Nat) (u : XU) (sg : St) (hF : XF cs ea u sg Y) (ol : Nat) (f : Nat → UInt64) (p0 : Int32) (R9 : UInt64) (τ : St) (hM : xOKd l D cs S0 ea mi sa ((ol, da cs f) :: Y) a u sg yX2_newness wsX2_newness [.ref (a 0), .int p0] R9 τ) : hOKd l D cs S0 ea mi sa Y a u sg ol f yL_newness wsL_newness [.ref (a 0), .int p0, .ref ol] 0 R9 τ := by
  refine z_ofWH (cc := cL_newness) (maxL := 4) (ret := (some .int)) (hh := [(0, 8, 11, 25)]) (by decide) rfl ?_
  intro p e s m args below meth c s₁ B hml hv
  obtain ⟨⟨rfl, hW, hK, hE⟩, hN⟩ := hv
  have hx := B.exec
  have hb := B.bytes
  have hr := B.returns
  have hts := atoms_spec (ws := wsL_newness) B.pre
  have hown : s.vm.findClass RL = some m.cls := findClass_of_methodNamed B.named
  have hlocks := B.notSynchronized
  have hRc : (headSpec wsL_newness RmH).room.cells = 5 := rfl
  have hRs : (headSpec wsL_newness RmH).room.slots = 1607 := rfl
  have hW : Wd D S0 ((ol, da cs f) :: XW cs a u sg Y) s.heap := hW
  have hS : va_S (SA S0) s.heap s.heap [] := va_S.rf
  have hl := lv_entry ([.ref (a 0), .int p0, .ref ol]) (n := 4) (Nat.le_of_ble_eq_true rfl)
  rw [lg_entry_eq]
  generalize (lg_sl ([.ref (a 0), .int p0, .ref ol]) ++ List.replicate (4 - (lg_sl ([.ref (a 0), .int p0, .ref ol])).length) Slot.unset).toArray = ls at hl ⊢
  have hl : lv_has ls 4 [(0, .ref (a 0)), (1, .int p0), (2, .ref ol)] := hl
  refine lv_aload_n hx hb dL_newness_0 rfl (lv_at hl 2 rfl) ?_
  refine lv_iconst (v := nI 0) hx hb dL_newness_1 (by decide) ?_
  refine lv_aload_n hx hb dL_newness_2 rfl (lv_at hl 0 rfl) ?_
  refine lv_iload_n hx hb dL_newness_3 rfl (lv_at hl 1 rfl) ?_
  have hW2 : Wd D S0 (XW cs a u sg ((ol, da cs f) :: Y)) s.heap := XW.push hW
  have hF2 : XF cs ea u sg ((ol, da cs f) :: Y) := hF.more (fun q9 h9 => List.mem_cons_of_mem _ h9)
  refine z_cmD (va_runV (As := [.int p0]) (rest := [.int (nI 0), .ref ol]) ⟨hx, hb, hml, hown, hts⟩ hM (cwV 1 hts gL_newness_X2_newness rfl rfl rfl (by decide +kernel) ⟨Nat.le_of_ble_eq_true rfl, Nat.le_of_ble_eq_true rfl⟩) ⟨zE_blind, z_recv hK (hW2.1 0 _ rfl) rfl, zE_pre hW2 hK hE hS⟩ rfl rfl hl.1 rfl (lv_room (Nat.le_of_ble_eq_true rfl)) dL_newness_4 ⟨Nat.le_of_ble_eq_true rfl, Nat.le_of_ble_eq_true rfl⟩) hS (fun r v H locs hu hW hS => ?_)
  obtain ⟨hu1, hu2⟩ := hu
  rw [hu1]
  have hW := XW.pull hW
  have hF3 : XF cs ea v.1 τ (v.2 ++ Y) := hu2.sel (sel_drop (A := [(ol, da cs f)]) (fun q9 h9 => by rw [List.mem_singleton.mp h9]; exact okE_da))
  have hW : Wd D S0 ((ol, da cs f) :: XW cs a v.1 τ (v.2 ++ Y)) H := hW
  refine z_dast hx hb hK hW hS dL_newness_7 (fun H locs g9 hg9 hW hS => ?_)
  have hW : Wd D S0 ((ol, da cs g9) :: XW cs a v.1 τ (v.2 ++ Y)) H := hW
  refine lv_goto (tgt := 14) hx hb dL_newness_8 (by decide) ?_
  refine lv_iconst (v := nI 0) hx hb dL_newness_14 (by decide) ?_
  refine W.widen (k := 5) (n := 1607) (by omega) (by omega) ?_
  exact W.iret (v := nI 0) hx hb hr (fun t ht hW9 => ⟨⟨_, (v.1, v.2, g9), rfl, ⟨rfl, fun _ => hg9, hF3⟩, (by show Wd D S0 _ _; rw [ht]; exact hW)⟩, hS.F ht⟩) (fun q9 h9 => hS.2.2 q9 h9) dL_newness_15

set_option maxHeartbeats 4000000 in
set_option maxRecDepth 100000 in
theorem h_newness_IO (l : Launch) (D : va_G) (cs : Nat → ClassId) (S0 ea mi : Nat) (sa : Nat → Nat) (Y : va_W) (a : Nat → Nat) (u : XU) (sg : St) (hF : XF cs ea u sg Y) (ol : Nat) (f : Nat → UInt64) (p0 : Int32) (R9 : UInt64) (hM : vT l yX2_newness wsX2_newness RmT (zE [.ref (a 0), .int p0] (fun H => XH D cs a u sg H) D cs S0 ea mi sa) eIO) : hOKd l D cs S0 ea mi sa Y a u sg ol f yL_newness wsL_newness [.ref (a 0), .int p0, .ref ol] 1 R9 sg := by
  refine z_ofWH (cc := cL_newness) (maxL := 4) (ret := (some .int)) (hh := [(0, 8, 11, 25)]) (by decide) rfl ?_
  intro p e s m args below meth c s₁ B hml hv
  obtain ⟨⟨rfl, hW, hK, hE⟩, hN⟩ := hv
  have hx := B.exec
  have hb := B.bytes
  have hr := B.returns
  have hts := atoms_spec (ws := wsL_newness) B.pre
  have hown : s.vm.findClass RL = some m.cls := findClass_of_methodNamed B.named
  have hlocks := B.notSynchronized
  have htab : c.exceptionTable.toList = tableOf [(0, 8, 11, 25)] := vx_table (x := yL_newness) B (hts _ List.mem_cons_self)
  have hRc : (headSpec wsL_newness RmH).room.cells = 5 := rfl
  have hRs : (headSpec wsL_newness RmH).room.slots = 1607 := rfl
  have hW : Wd D S0 ((ol, da cs f) :: XW cs a u sg Y) s.heap := hW
  have hS : va_S (SA S0) s.heap s.heap [] := va_S.rf
  have hl := lv_entry ([.ref (a 0), .int p0, .ref ol]) (n := 4) (Nat.le_of_ble_eq_true rfl)
  rw [lg_entry_eq]
  generalize (lg_sl ([.ref (a 0), .int p0, .ref ol]) ++ List.replicate (4 - (lg_sl ([.ref (a 0), .int p0, .ref ol])).length) Slot.unset).toArray = ls at hl ⊢
  have hl : lv_has ls 4 [(0, .ref (a 0)), (1, .int p0), (2, .ref ol)] := hl
  refine lv_aload_n hx hb dL_newness_0 rfl (lv_at hl 2 rfl) ?_
  refine lv_iconst (v := nI 0) hx hb dL_newness_1 (by decide) ?_
  refine lv_aload_n hx hb dL_newness_2 rfl (lv_at hl 0 rfl) ?_
  refine lv_iload_n hx hb dL_newness_3 rfl (lv_at hl 1 rfl) ?_
  have hW2 : Wd D S0 (XW cs a u sg ((ol, da cs f) :: Y)) s.heap := XW.push hW
  have hF2 : XF cs ea u sg ((ol, da cs f) :: Y) := hF.more (fun q9 h9 => List.mem_cons_of_mem _ h9)
  have hPH2 := XH.of (D := D) hW2 hF2
  refine z_cat (vx_runV (As := [.int p0]) (rest := [.int (nI 0), .ref ol]) ⟨hx, hb, hml, hown, hts⟩ hM (cwV 1 hts gL_newness_X2_newness rfl rfl rfl (by decide +kernel) ⟨Nat.le_of_ble_eq_true rfl, Nat.le_of_ble_eq_true rfl⟩) ⟨zE_blind, z_recv hK (hW2.1 0 _ rfl) rfl, zE_pre hPH2 hK hE va_S.rf⟩ rfl rfl hl.1 rfl (lv_room (Nat.le_of_ble_eq_true rfl)) dL_newness_4 ⟨Nat.le_of_ble_eq_true rfl, Nat.le_of_ble_eq_true rfl⟩) (fun H q8 ce hz9 hk9 hq1 hq2 hq3 => ?_)
  have hW : Wd D S0 ((ol, da cs f) :: XW cs a u sg Y) H := hW.kept hz9 hk9
  have hS : va_S (SA S0) s.heap H [] := ⟨hz9, fun q9 h9 _ => hk9 q9 h9, fun q9 h9 => absurd h9 List.not_mem_nil⟩
  refine vx_catch (name := eIO) hown [] ⟨0, 8, 11, 25⟩ [] htab (fun z9 h9 => absurd h9 List.not_mem_nil) (by decide) (by decide) (hts (.classLink RL 25 eIO) (by decide +kernel)) (va_Nw.use rfl (hE.2.2.2.2.1 (eIO, eIO) (by decide))) hq1 hq2 hq3 ?_
  refine lv_astore_n (lv' := [(3, .ref q8), (0, .ref (a 0)), (1, .int p0), (2, .ref ol)]) hx hb dL_newness_11 rfl hl (by decide) rfl (fun ls hl => ?_)
  refine lv_iconst (v := nI 1) hx hb dL_newness_12 (by decide) ?_
  refine W.widen (k := 5) (n := 1607) (by omega) (by omega) ?_
  exact W.iret (v := nI 1) hx hb hr (fun t ht hW9 => ⟨⟨_, (u, [], f), rfl, ⟨rfl, fun h9 => absurd h9 (by decide), hF⟩, (by show Wd D S0 _ _; rw [ht]; exact hW)⟩, hS.F ht⟩) (fun q9 h9 => hS.2.2 q9 h9) dL_newness_13

set_option maxHeartbeats 4000000 in
set_option maxRecDepth 100000 in
theorem h_apply_ok (l : Launch) (D : va_G) (cs : Nat → ClassId) (S0 ea mi : Nat) (sa : Nat → Nat) (Y : va_W) (a : Nat → Nat) (u : XU) (sg : St) (hF : XF cs ea u sg Y) (ol : Nat) (f : Nat → Int64) (p0 : Int32) (p1 : Int32) (R9 : Int32) (τ : St) (hM : xOK l D cs S0 ea mi sa ((ol, la cs f) :: Y) a u sg yX2_apply wsX2_apply [.ref (a 0), .int p0, .int p1] R9 τ) : hOK l D cs S0 ea mi sa Y a u sg ol f yL_apply wsL_apply [.ref (a 0), .int p0, .int p1, .ref ol] 0 R9.toInt64 τ := by
  refine z_ofWH (cc := cL_apply) (maxL := 5) (ret := (some .int)) (hh := [(0, 10, 13, 25), (0, 10, 17, 13), (0, 10, 21, 15)]) (by decide) rfl ?_
  intro p e s m args below meth c s₁ B hml hv
  obtain ⟨⟨rfl, hW, hK, hE⟩, hN⟩ := hv
  have hx := B.exec
  have hb := B.bytes
  have hr := B.returns
  have hts := atoms_spec (ws := wsL_apply) B.pre
  have hown : s.vm.findClass RL = some m.cls := findClass_of_methodNamed B.named
  have hlocks := B.notSynchronized
  have hRc : (headSpec wsL_apply RmH).room.cells = 5 := rfl
  have hRs : (headSpec wsL_apply RmH).room.slots = 1607 := rfl
  have hW : Wd D S0 ((ol, la cs f) :: XW cs a u sg Y) s.heap := hW
  have hS : va_S (SA S0) s.heap s.heap [] := va_S.rf
  have hl := lv_entry ([.ref (a 0), .int p0, .int p1, .ref ol]) (n := 5) (Nat.le_of_ble_eq_true rfl)
  rw [lg_entry_eq]
  generalize (lg_sl ([.ref (a 0), .int p0, .int p1, .ref ol]) ++ List.replicate (5 - (lg_sl ([.ref (a 0), .int p0, .int p1, .ref ol])).length) Slot.unset).toArray = ls at hl ⊢
  have hl : lv_has ls 5 [(0, .ref (a 0)), (1, .int p0), (2, .int p1), (3, .ref ol)] := hl
  refine lv_aload_n hx hb dL_apply_0 rfl (lv_at hl 3 rfl) ?_
  refine lv_iconst (v := nI 0) hx hb dL_apply_1 (by decide) ?_
  refine lv_aload_n hx hb dL_apply_2 rfl (lv_at hl 0 rfl) ?_
  refine lv_iload_n hx hb dL_apply_3 rfl (lv_at hl 1 rfl) ?_
  refine lv_iload_n hx hb dL_apply_4 rfl (lv_at hl 2 rfl) ?_
  have hW2 : Wd D S0 (XW cs a u sg ((ol, la cs f) :: Y)) s.heap := XW.push hW
  have hF2 : XF cs ea u sg ((ol, la cs f) :: Y) := hF.more (fun q9 h9 => List.mem_cons_of_mem _ h9)
  refine z_cmI (va_runV (As := [.int p0, .int p1]) (rest := [.int (nI 0), .ref ol]) ⟨hx, hb, hml, hown, hts⟩ hM (cwV 2 hts gL_apply_X2_apply rfl rfl rfl (by decide +kernel) ⟨Nat.le_of_ble_eq_true rfl, Nat.le_of_ble_eq_true rfl⟩) ⟨zE_blind, z_recv hK (hW2.1 0 _ rfl) rfl, zE_pre hW2 hK hE hS⟩ rfl rfl hl.1 rfl (lv_room (Nat.le_of_ble_eq_true rfl)) dL_apply_5 ⟨Nat.le_of_ble_eq_true rfl, Nat.le_of_ble_eq_true rfl⟩) hS (fun r v H locs hu hW hS => ?_)
  obtain ⟨hu1, hu2⟩ := hu
  rw [hu1]
  have hW := XW.pull hW
  have hF3 : XF cs ea v.1 τ (v.2 ++ Y) := hu2.sel (sel_drop (A := [(ol, la cs f)]) (fun q9 h9 => by rw [List.mem_singleton.mp h9]; exact okE_la))
  have hW : Wd D S0 ((ol, la cs f) :: XW cs a v.1 τ (v.2 ++ Y)) H := hW
  refine lv_i2l (v := R9.toInt64) hx hb dL_apply_8 rfl ?_
  refine z_last hx hb hK hW hS dL_apply_9 (fun H locs g9 hg9 hW hS => ?_)
  have hW : Wd D S0 ((ol, la cs g9) :: XW cs a v.1 τ (v.2 ++ Y)) H := hW
  refine lv_goto (tgt := 25) hx hb dL_apply_10 (by decide) ?_
  refine lv_iconst (v := nI 0) hx hb dL_apply_25 (by decide) ?_
  refine W.widen (k := 5) (n := 1607) (by omega) (by omega) ?_
  exact W.iret (v := nI 0) hx hb hr (fun t ht hW9 => ⟨⟨_, (v.1, v.2, g9), rfl, ⟨rfl, fun _ => hg9, hF3⟩, (by show Wd D S0 _ _; rw [ht]; exact hW)⟩, hS.F ht⟩) (fun q9 h9 => hS.2.2 q9 h9) dL_apply_26

set_option maxHeartbeats 4000000 in
set_option maxRecDepth 100000 in
theorem h_apply_IO (l : Launch) (D : va_G) (cs : Nat → ClassId) (S0 ea mi : Nat) (sa : Nat → Nat) (Y : va_W) (a : Nat → Nat) (u : XU) (sg : St) (hF : XF cs ea u sg Y) (ol : Nat) (f : Nat → Int64) (p0 : Int32) (p1 : Int32) (R9 : Int64) (hM : vT l yX2_apply wsX2_apply RmT (zE [.ref (a 0), .int p0, .int p1] (fun H => XH D cs a u sg H) D cs S0 ea mi sa) eIO) : hOK l D cs S0 ea mi sa Y a u sg ol f yL_apply wsL_apply [.ref (a 0), .int p0, .int p1, .ref ol] 1 R9 sg := by
  refine z_ofWH (cc := cL_apply) (maxL := 5) (ret := (some .int)) (hh := [(0, 10, 13, 25), (0, 10, 17, 13), (0, 10, 21, 15)]) (by decide) rfl ?_
  intro p e s m args below meth c s₁ B hml hv
  obtain ⟨⟨rfl, hW, hK, hE⟩, hN⟩ := hv
  have hx := B.exec
  have hb := B.bytes
  have hr := B.returns
  have hts := atoms_spec (ws := wsL_apply) B.pre
  have hown : s.vm.findClass RL = some m.cls := findClass_of_methodNamed B.named
  have hlocks := B.notSynchronized
  have htab : c.exceptionTable.toList = tableOf [(0, 10, 13, 25), (0, 10, 17, 13), (0, 10, 21, 15)] := vx_table (x := yL_apply) B (hts _ List.mem_cons_self)
  have hRc : (headSpec wsL_apply RmH).room.cells = 5 := rfl
  have hRs : (headSpec wsL_apply RmH).room.slots = 1607 := rfl
  have hW : Wd D S0 ((ol, la cs f) :: XW cs a u sg Y) s.heap := hW
  have hS : va_S (SA S0) s.heap s.heap [] := va_S.rf
  have hl := lv_entry ([.ref (a 0), .int p0, .int p1, .ref ol]) (n := 5) (Nat.le_of_ble_eq_true rfl)
  rw [lg_entry_eq]
  generalize (lg_sl ([.ref (a 0), .int p0, .int p1, .ref ol]) ++ List.replicate (5 - (lg_sl ([.ref (a 0), .int p0, .int p1, .ref ol])).length) Slot.unset).toArray = ls at hl ⊢
  have hl : lv_has ls 5 [(0, .ref (a 0)), (1, .int p0), (2, .int p1), (3, .ref ol)] := hl
  refine lv_aload_n hx hb dL_apply_0 rfl (lv_at hl 3 rfl) ?_
  refine lv_iconst (v := nI 0) hx hb dL_apply_1 (by decide) ?_
  refine lv_aload_n hx hb dL_apply_2 rfl (lv_at hl 0 rfl) ?_
  refine lv_iload_n hx hb dL_apply_3 rfl (lv_at hl 1 rfl) ?_
  refine lv_iload_n hx hb dL_apply_4 rfl (lv_at hl 2 rfl) ?_
  have hW2 : Wd D S0 (XW cs a u sg ((ol, la cs f) :: Y)) s.heap := XW.push hW
  have hF2 : XF cs ea u sg ((ol, la cs f) :: Y) := hF.more (fun q9 h9 => List.mem_cons_of_mem _ h9)
  have hPH2 := XH.of (D := D) hW2 hF2
  refine z_cat (vx_runV (As := [.int p0, .int p1]) (rest := [.int (nI 0), .ref ol]) ⟨hx, hb, hml, hown, hts⟩ hM (cwV 2 hts gL_apply_X2_apply rfl rfl rfl (by decide +kernel) ⟨Nat.le_of_ble_eq_true rfl, Nat.le_of_ble_eq_true rfl⟩) ⟨zE_blind, z_recv hK (hW2.1 0 _ rfl) rfl, zE_pre hPH2 hK hE va_S.rf⟩ rfl rfl hl.1 rfl (lv_room (Nat.le_of_ble_eq_true rfl)) dL_apply_5 ⟨Nat.le_of_ble_eq_true rfl, Nat.le_of_ble_eq_true rfl⟩) (fun H q8 ce hz9 hk9 hq1 hq2 hq3 => ?_)
  have hW : Wd D S0 ((ol, la cs f) :: XW cs a u sg Y) H := hW.kept hz9 hk9
  have hS : va_S (SA S0) s.heap H [] := ⟨hz9, fun q9 h9 _ => hk9 q9 h9, fun q9 h9 => absurd h9 List.not_mem_nil⟩
  refine vx_catch (name := eIO) hown [] ⟨0, 10, 13, 25⟩ [⟨0, 10, 17, 13⟩, ⟨0, 10, 21, 15⟩] htab (fun z9 h9 => absurd h9 List.not_mem_nil) (by decide) (by decide) (hts (.classLink RL 25 eIO) (by decide +kernel)) (va_Nw.use rfl (hE.2.2.2.2.1 (eIO, eIO) (by decide))) hq1 hq2 hq3 ?_
  refine lv_astore (lv' := [(4, .ref q8), (0, .ref (a 0)), (1, .int p0), (2, .int p1), (3, .ref ol)]) hx hb dL_apply_13 hl (by decide) rfl (fun ls hl => ?_)
  refine lv_iconst (v := nI 1) hx hb dL_apply_15 (by decide) ?_
  refine W.widen (k := 5) (n := 1607) (by omega) (by omega) ?_
  exact W.iret (v := nI 1) hx hb hr (fun t ht hW9 => ⟨⟨_, (u, [], f), rfl, ⟨rfl, fun h9 => absurd h9 (by decide), hF⟩, (by show Wd D S0 _ _; rw [ht]; exact hW)⟩, hS.F ht⟩) (fun q9 h9 => hS.2.2 q9 h9) dL_apply_16

set_option maxHeartbeats 4000000 in
set_option maxRecDepth 100000 in
theorem h_apply_IA (l : Launch) (D : va_G) (cs : Nat → ClassId) (S0 ea mi : Nat) (sa : Nat → Nat) (Y : va_W) (a : Nat → Nat) (u : XU) (sg : St) (hF : XF cs ea u sg Y) (ol : Nat) (f : Nat → Int64) (p0 : Int32) (p1 : Int32) (R9 : Int64) (hM : vT l yX2_apply wsX2_apply RmT (zE [.ref (a 0), .int p0, .int p1] (fun H => XH D cs a u sg H) D cs S0 ea mi sa) eIA) : hOK l D cs S0 ea mi sa Y a u sg ol f yL_apply wsL_apply [.ref (a 0), .int p0, .int p1, .ref ol] 2 R9 sg := by
  refine z_ofWH (cc := cL_apply) (maxL := 5) (ret := (some .int)) (hh := [(0, 10, 13, 25), (0, 10, 17, 13), (0, 10, 21, 15)]) (by decide) rfl ?_
  intro p e s m args below meth c s₁ B hml hv
  obtain ⟨⟨rfl, hW, hK, hE⟩, hN⟩ := hv
  have hx := B.exec
  have hb := B.bytes
  have hr := B.returns
  have hts := atoms_spec (ws := wsL_apply) B.pre
  have hown : s.vm.findClass RL = some m.cls := findClass_of_methodNamed B.named
  have hlocks := B.notSynchronized
  have htab : c.exceptionTable.toList = tableOf [(0, 10, 13, 25), (0, 10, 17, 13), (0, 10, 21, 15)] := vx_table (x := yL_apply) B (hts _ List.mem_cons_self)
  have hRc : (headSpec wsL_apply RmH).room.cells = 5 := rfl
  have hRs : (headSpec wsL_apply RmH).room.slots = 1607 := rfl
  have hW : Wd D S0 ((ol, la cs f) :: XW cs a u sg Y) s.heap := hW
  have hS : va_S (SA S0) s.heap s.heap [] := va_S.rf
  have hl := lv_entry ([.ref (a 0), .int p0, .int p1, .ref ol]) (n := 5) (Nat.le_of_ble_eq_true rfl)
  rw [lg_entry_eq]
  generalize (lg_sl ([.ref (a 0), .int p0, .int p1, .ref ol]) ++ List.replicate (5 - (lg_sl ([.ref (a 0), .int p0, .int p1, .ref ol])).length) Slot.unset).toArray = ls at hl ⊢
  have hl : lv_has ls 5 [(0, .ref (a 0)), (1, .int p0), (2, .int p1), (3, .ref ol)] := hl
  refine lv_aload_n hx hb dL_apply_0 rfl (lv_at hl 3 rfl) ?_
  refine lv_iconst (v := nI 0) hx hb dL_apply_1 (by decide) ?_
  refine lv_aload_n hx hb dL_apply_2 rfl (lv_at hl 0 rfl) ?_
  refine lv_iload_n hx hb dL_apply_3 rfl (lv_at hl 1 rfl) ?_
  refine lv_iload_n hx hb dL_apply_4 rfl (lv_at hl 2 rfl) ?_
  have hW2 : Wd D S0 (XW cs a u sg ((ol, la cs f) :: Y)) s.heap := XW.push hW
  have hF2 : XF cs ea u sg ((ol, la cs f) :: Y) := hF.more (fun q9 h9 => List.mem_cons_of_mem _ h9)
  have hPH2 := XH.of (D := D) hW2 hF2
  refine z_cat (vx_runV (As := [.int p0, .int p1]) (rest := [.int (nI 0), .ref ol]) ⟨hx, hb, hml, hown, hts⟩ hM (cwV 2 hts gL_apply_X2_apply rfl rfl rfl (by decide +kernel) ⟨Nat.le_of_ble_eq_true rfl, Nat.le_of_ble_eq_true rfl⟩) ⟨zE_blind, z_recv hK (hW2.1 0 _ rfl) rfl, zE_pre hPH2 hK hE va_S.rf⟩ rfl rfl hl.1 rfl (lv_room (Nat.le_of_ble_eq_true rfl)) dL_apply_5 ⟨Nat.le_of_ble_eq_true rfl, Nat.le_of_ble_eq_true rfl⟩) (fun H q8 ce hz9 hk9 hq1 hq2 hq3 => ?_)
  have hW : Wd D S0 ((ol, la cs f) :: XW cs a u sg Y) H := hW.kept hz9 hk9
  have hS : va_S (SA S0) s.heap H [] := ⟨hz9, fun q9 h9 _ => hk9 q9 h9, fun q9 h9 => absurd h9 List.not_mem_nil⟩
  refine vx_catch (name := eIA) hown [⟨0, 10, 13, 25⟩] ⟨0, 10, 17, 13⟩ [⟨0, 10, 21, 15⟩] htab (fun z9 h9 => by
      rw [List.mem_singleton.mp h9]
      exact Or.inr ⟨by decide, eIO, hts (.classLink RL 25 eIO) (by decide +kernel), hN.1⟩) (by decide) (by decide) (hts (.classLink RL 13 eIA) (by decide +kernel)) (va_Nw.use rfl (hE.2.2.2.2.1 (eIA, eIA) (by decide))) hq1 hq2 hq3 ?_
  refine lv_astore (lv' := [(4, .ref q8), (0, .ref (a 0)), (1, .int p0), (2, .int p1), (3, .ref ol)]) hx hb dL_apply_17 hl (by decide) rfl (fun ls hl => ?_)
  refine lv_iconst (v := nI 2) hx hb dL_apply_19 (by decide) ?_
  refine W.widen (k := 5) (n := 1607) (by omega) (by omega) ?_
  exact W.iret (v := nI 2) hx hb hr (fun t ht hW9 => ⟨⟨_, (u, [], f), rfl, ⟨rfl, fun h9 => absurd h9 (by decide), hF⟩, (by show Wd D S0 _ _; rw [ht]; exact hW)⟩, hS.F ht⟩) (fun q9 h9 => hS.2.2 q9 h9) dL_apply_20

set_option maxHeartbeats 4000000 in
set_option maxRecDepth 100000 in
theorem h_apply_IS (l : Launch) (D : va_G) (cs : Nat → ClassId) (S0 ea mi : Nat) (sa : Nat → Nat) (Y : va_W) (a : Nat → Nat) (u : XU) (sg : St) (hF : XF cs ea u sg Y) (ol : Nat) (f : Nat → Int64) (p0 : Int32) (p1 : Int32) (R9 : Int64) (hM : vT l yX2_apply wsX2_apply RmT (zE [.ref (a 0), .int p0, .int p1] (fun H => XH D cs a u sg H) D cs S0 ea mi sa) eIS) : hOK l D cs S0 ea mi sa Y a u sg ol f yL_apply wsL_apply [.ref (a 0), .int p0, .int p1, .ref ol] 3 R9 sg := by
  refine z_ofWH (cc := cL_apply) (maxL := 5) (ret := (some .int)) (hh := [(0, 10, 13, 25), (0, 10, 17, 13), (0, 10, 21, 15)]) (by decide) rfl ?_
  intro p e s m args below meth c s₁ B hml hv
  obtain ⟨⟨rfl, hW, hK, hE⟩, hN⟩ := hv
  have hx := B.exec
  have hb := B.bytes
  have hr := B.returns
  have hts := atoms_spec (ws := wsL_apply) B.pre
  have hown : s.vm.findClass RL = some m.cls := findClass_of_methodNamed B.named
  have hlocks := B.notSynchronized
  have htab : c.exceptionTable.toList = tableOf [(0, 10, 13, 25), (0, 10, 17, 13), (0, 10, 21, 15)] := vx_table (x := yL_apply) B (hts _ List.mem_cons_self)
  have hRc : (headSpec wsL_apply RmH).room.cells = 5 := rfl
  have hRs : (headSpec wsL_apply RmH).room.slots = 1607 := rfl
  have hW : Wd D S0 ((ol, la cs f) :: XW cs a u sg Y) s.heap := hW
  have hS : va_S (SA S0) s.heap s.heap [] := va_S.rf
  have hl := lv_entry ([.ref (a 0), .int p0, .int p1, .ref ol]) (n := 5) (Nat.le_of_ble_eq_true rfl)
  rw [lg_entry_eq]
  generalize (lg_sl ([.ref (a 0), .int p0, .int p1, .ref ol]) ++ List.replicate (5 - (lg_sl ([.ref (a 0), .int p0, .int p1, .ref ol])).length) Slot.unset).toArray = ls at hl ⊢
  have hl : lv_has ls 5 [(0, .ref (a 0)), (1, .int p0), (2, .int p1), (3, .ref ol)] := hl
  refine lv_aload_n hx hb dL_apply_0 rfl (lv_at hl 3 rfl) ?_
  refine lv_iconst (v := nI 0) hx hb dL_apply_1 (by decide) ?_
  refine lv_aload_n hx hb dL_apply_2 rfl (lv_at hl 0 rfl) ?_
  refine lv_iload_n hx hb dL_apply_3 rfl (lv_at hl 1 rfl) ?_
  refine lv_iload_n hx hb dL_apply_4 rfl (lv_at hl 2 rfl) ?_
  have hW2 : Wd D S0 (XW cs a u sg ((ol, la cs f) :: Y)) s.heap := XW.push hW
  have hF2 : XF cs ea u sg ((ol, la cs f) :: Y) := hF.more (fun q9 h9 => List.mem_cons_of_mem _ h9)
  have hPH2 := XH.of (D := D) hW2 hF2
  refine z_cat (vx_runV (As := [.int p0, .int p1]) (rest := [.int (nI 0), .ref ol]) ⟨hx, hb, hml, hown, hts⟩ hM (cwV 2 hts gL_apply_X2_apply rfl rfl rfl (by decide +kernel) ⟨Nat.le_of_ble_eq_true rfl, Nat.le_of_ble_eq_true rfl⟩) ⟨zE_blind, z_recv hK (hW2.1 0 _ rfl) rfl, zE_pre hPH2 hK hE va_S.rf⟩ rfl rfl hl.1 rfl (lv_room (Nat.le_of_ble_eq_true rfl)) dL_apply_5 ⟨Nat.le_of_ble_eq_true rfl, Nat.le_of_ble_eq_true rfl⟩) (fun H q8 ce hz9 hk9 hq1 hq2 hq3 => ?_)
  have hW : Wd D S0 ((ol, la cs f) :: XW cs a u sg Y) H := hW.kept hz9 hk9
  have hS : va_S (SA S0) s.heap H [] := ⟨hz9, fun q9 h9 _ => hk9 q9 h9, fun q9 h9 => absurd h9 List.not_mem_nil⟩
  refine vx_catch (name := eIS) hown [⟨0, 10, 13, 25⟩, ⟨0, 10, 17, 13⟩] ⟨0, 10, 21, 15⟩ [] htab (fun z9 h9 => by
      rcases List.mem_cons.mp h9 with h9 | h9
      · rw [h9]; exact Or.inr ⟨by decide, eIO, hts (.classLink RL 25 eIO) (by decide +kernel), hN.2.1⟩
      · rw [List.mem_singleton.mp h9]; exact Or.inr ⟨by decide, eIA, hts (.classLink RL 13 eIA) (by decide +kernel), hN.2.2⟩) (by decide) (by decide) (hts (.classLink RL 15 eIS) (by decide +kernel)) (va_Nw.use rfl (hE.2.2.2.2.1 (eIS, eIS) (by decide))) hq1 hq2 hq3 ?_
  refine lv_astore (lv' := [(4, .ref q8), (0, .ref (a 0)), (1, .int p0), (2, .int p1), (3, .ref ol)]) hx hb dL_apply_21 hl (by decide) rfl (fun ls hl => ?_)
  refine lv_iconst (v := nI 3) hx hb dL_apply_23 (by decide) ?_
  refine W.widen (k := 5) (n := 1607) (by omega) (by omega) ?_
  exact W.iret (v := nI 3) hx hb hr (fun t ht hW9 => ⟨⟨_, (u, [], f), rfl, ⟨rfl, fun h9 => absurd h9 (by decide), hF⟩, (by show Wd D S0 _ _; rw [ht]; exact hW)⟩, hS.F ht⟩) (fun q9 h9 => hS.2.2 q9 h9) dL_apply_24

set_option maxHeartbeats 4000000 in
set_option maxRecDepth 100000 in
theorem h_steps_ok (l : Launch) (D : va_G) (cs : Nat → ClassId) (S0 ea mi : Nat) (sa : Nat → Nat) (Y : va_W) (a : Nat → Nat) (u : XU) (sg : St) (hF : XF cs ea u sg Y) (ol : Nat) (f : Nat → Int64) (p0 : Int32) (p1 : Int32) (R9 : Int32) (τ : St) (hM : xOK l D cs S0 ea mi sa ((ol, la cs f) :: Y) a u sg yX2_steps wsX2_steps [.ref (a 0), .int p0, .int p1] R9 τ) : hOK l D cs S0 ea mi sa Y a u sg ol f yL_steps wsL_steps [.ref (a 0), .int p0, .int p1, .ref ol] 0 R9.toInt64 τ := by
  refine z_ofWH (cc := cL_steps) (maxL := 5) (ret := (some .int)) (hh := [(0, 10, 13, 25)]) (by decide) rfl ?_
  intro p e s m args below meth c s₁ B hml hv
  obtain ⟨⟨rfl, hW, hK, hE⟩, hN⟩ := hv
  have hx := B.exec
  have hb := B.bytes
  have hr := B.returns
  have hts := atoms_spec (ws := wsL_steps) B.pre
  have hown : s.vm.findClass RL = some m.cls := findClass_of_methodNamed B.named
  have hlocks := B.notSynchronized
  have hRc : (headSpec wsL_steps RmH).room.cells = 5 := rfl
  have hRs : (headSpec wsL_steps RmH).room.slots = 1607 := rfl
  have hW : Wd D S0 ((ol, la cs f) :: XW cs a u sg Y) s.heap := hW
  have hS : va_S (SA S0) s.heap s.heap [] := va_S.rf
  have hl := lv_entry ([.ref (a 0), .int p0, .int p1, .ref ol]) (n := 5) (Nat.le_of_ble_eq_true rfl)
  rw [lg_entry_eq]
  generalize (lg_sl ([.ref (a 0), .int p0, .int p1, .ref ol]) ++ List.replicate (5 - (lg_sl ([.ref (a 0), .int p0, .int p1, .ref ol])).length) Slot.unset).toArray = ls at hl ⊢
  have hl : lv_has ls 5 [(0, .ref (a 0)), (1, .int p0), (2, .int p1), (3, .ref ol)] := hl
  refine lv_aload_n hx hb dL_steps_0 rfl (lv_at hl 3 rfl) ?_
  refine lv_iconst (v := nI 0) hx hb dL_steps_1 (by decide) ?_
  refine lv_aload_n hx hb dL_steps_2 rfl (lv_at hl 0 rfl) ?_
  refine lv_iload_n hx hb dL_steps_3 rfl (lv_at hl 1 rfl) ?_
  refine lv_iload_n hx hb dL_steps_4 rfl (lv_at hl 2 rfl) ?_
  have hW2 : Wd D S0 (XW cs a u sg ((ol, la cs f) :: Y)) s.heap := XW.push hW
  have hF2 : XF cs ea u sg ((ol, la cs f) :: Y) := hF.more (fun q9 h9 => List.mem_cons_of_mem _ h9)
  refine z_cmI (va_runV (As := [.int p0, .int p1]) (rest := [.int (nI 0), .ref ol]) ⟨hx, hb, hml, hown, hts⟩ hM (cwV 2 hts gL_steps_X2_steps rfl rfl rfl (by decide +kernel) ⟨Nat.le_of_ble_eq_true rfl, Nat.le_of_ble_eq_true rfl⟩) ⟨zE_blind, z_recv hK (hW2.1 0 _ rfl) rfl, zE_pre hW2 hK hE hS⟩ rfl rfl hl.1 rfl (lv_room (Nat.le_of_ble_eq_true rfl)) dL_steps_5 ⟨Nat.le_of_ble_eq_true rfl, Nat.le_of_ble_eq_true rfl⟩) hS (fun r v H locs hu hW hS => ?_)
  obtain ⟨hu1, hu2⟩ := hu
  rw [hu1]
  have hW := XW.pull hW
  have hF3 : XF cs ea v.1 τ (v.2 ++ Y) := hu2.sel (sel_drop (A := [(ol, la cs f)]) (fun q9 h9 => by rw [List.mem_singleton.mp h9]; exact okE_la))
  have hW : Wd D S0 ((ol, la cs f) :: XW cs a v.1 τ (v.2 ++ Y)) H := hW
  refine lv_i2l (v := R9.toInt64) hx hb dL_steps_8 rfl ?_
  refine z_last hx hb hK hW hS dL_steps_9 (fun H locs g9 hg9 hW hS => ?_)
  have hW : Wd D S0 ((ol, la cs g9) :: XW cs a v.1 τ (v.2 ++ Y)) H := hW
  refine lv_goto (tgt := 17) hx hb dL_steps_10 (by decide) ?_
  refine lv_iconst (v := nI 0) hx hb dL_steps_17 (by decide) ?_
  refine W.widen (k := 5) (n := 1607) (by omega) (by omega) ?_
  exact W.iret (v := nI 0) hx hb hr (fun t ht hW9 => ⟨⟨_, (v.1, v.2, g9), rfl, ⟨rfl, fun _ => hg9, hF3⟩, (by show Wd D S0 _ _; rw [ht]; exact hW)⟩, hS.F ht⟩) (fun q9 h9 => hS.2.2 q9 h9) dL_steps_18

set_option maxHeartbeats 4000000 in
set_option maxRecDepth 100000 in
theorem h_steps_IO (l : Launch) (D : va_G) (cs : Nat → ClassId) (S0 ea mi : Nat) (sa : Nat → Nat) (Y : va_W) (a : Nat → Nat) (u : XU) (sg : St) (hF : XF cs ea u sg Y) (ol : Nat) (f : Nat → Int64) (p0 : Int32) (p1 : Int32) (R9 : Int64) (hM : vT l yX2_steps wsX2_steps RmT (zE [.ref (a 0), .int p0, .int p1] (fun H => XH D cs a u sg H) D cs S0 ea mi sa) eIO) : hOK l D cs S0 ea mi sa Y a u sg ol f yL_steps wsL_steps [.ref (a 0), .int p0, .int p1, .ref ol] 1 R9 sg := by
  refine z_ofWH (cc := cL_steps) (maxL := 5) (ret := (some .int)) (hh := [(0, 10, 13, 25)]) (by decide) rfl ?_
  intro p e s m args below meth c s₁ B hml hv
  obtain ⟨⟨rfl, hW, hK, hE⟩, hN⟩ := hv
  have hx := B.exec
  have hb := B.bytes
  have hr := B.returns
  have hts := atoms_spec (ws := wsL_steps) B.pre
  have hown : s.vm.findClass RL = some m.cls := findClass_of_methodNamed B.named
  have hlocks := B.notSynchronized
  have htab : c.exceptionTable.toList = tableOf [(0, 10, 13, 25)] := vx_table (x := yL_steps) B (hts _ List.mem_cons_self)
  have hRc : (headSpec wsL_steps RmH).room.cells = 5 := rfl
  have hRs : (headSpec wsL_steps RmH).room.slots = 1607 := rfl
  have hW : Wd D S0 ((ol, la cs f) :: XW cs a u sg Y) s.heap := hW
  have hS : va_S (SA S0) s.heap s.heap [] := va_S.rf
  have hl := lv_entry ([.ref (a 0), .int p0, .int p1, .ref ol]) (n := 5) (Nat.le_of_ble_eq_true rfl)
  rw [lg_entry_eq]
  generalize (lg_sl ([.ref (a 0), .int p0, .int p1, .ref ol]) ++ List.replicate (5 - (lg_sl ([.ref (a 0), .int p0, .int p1, .ref ol])).length) Slot.unset).toArray = ls at hl ⊢
  have hl : lv_has ls 5 [(0, .ref (a 0)), (1, .int p0), (2, .int p1), (3, .ref ol)] := hl
  refine lv_aload_n hx hb dL_steps_0 rfl (lv_at hl 3 rfl) ?_
  refine lv_iconst (v := nI 0) hx hb dL_steps_1 (by decide) ?_
  refine lv_aload_n hx hb dL_steps_2 rfl (lv_at hl 0 rfl) ?_
  refine lv_iload_n hx hb dL_steps_3 rfl (lv_at hl 1 rfl) ?_
  refine lv_iload_n hx hb dL_steps_4 rfl (lv_at hl 2 rfl) ?_
  have hW2 : Wd D S0 (XW cs a u sg ((ol, la cs f) :: Y)) s.heap := XW.push hW
  have hF2 : XF cs ea u sg ((ol, la cs f) :: Y) := hF.more (fun q9 h9 => List.mem_cons_of_mem _ h9)
  have hPH2 := XH.of (D := D) hW2 hF2
  refine z_cat (vx_runV (As := [.int p0, .int p1]) (rest := [.int (nI 0), .ref ol]) ⟨hx, hb, hml, hown, hts⟩ hM (cwV 2 hts gL_steps_X2_steps rfl rfl rfl (by decide +kernel) ⟨Nat.le_of_ble_eq_true rfl, Nat.le_of_ble_eq_true rfl⟩) ⟨zE_blind, z_recv hK (hW2.1 0 _ rfl) rfl, zE_pre hPH2 hK hE va_S.rf⟩ rfl rfl hl.1 rfl (lv_room (Nat.le_of_ble_eq_true rfl)) dL_steps_5 ⟨Nat.le_of_ble_eq_true rfl, Nat.le_of_ble_eq_true rfl⟩) (fun H q8 ce hz9 hk9 hq1 hq2 hq3 => ?_)
  have hW : Wd D S0 ((ol, la cs f) :: XW cs a u sg Y) H := hW.kept hz9 hk9
  have hS : va_S (SA S0) s.heap H [] := ⟨hz9, fun q9 h9 _ => hk9 q9 h9, fun q9 h9 => absurd h9 List.not_mem_nil⟩
  refine vx_catch (name := eIO) hown [] ⟨0, 10, 13, 25⟩ [] htab (fun z9 h9 => absurd h9 List.not_mem_nil) (by decide) (by decide) (hts (.classLink RL 25 eIO) (by decide +kernel)) (va_Nw.use rfl (hE.2.2.2.2.1 (eIO, eIO) (by decide))) hq1 hq2 hq3 ?_
  refine lv_astore (lv' := [(4, .ref q8), (0, .ref (a 0)), (1, .int p0), (2, .int p1), (3, .ref ol)]) hx hb dL_steps_13 hl (by decide) rfl (fun ls hl => ?_)
  refine lv_iconst (v := nI 1) hx hb dL_steps_15 (by decide) ?_
  refine W.widen (k := 5) (n := 1607) (by omega) (by omega) ?_
  exact W.iret (v := nI 1) hx hb hr (fun t ht hW9 => ⟨⟨_, (u, [], f), rfl, ⟨rfl, fun h9 => absurd h9 (by decide), hF⟩, (by show Wd D S0 _ _; rw [ht]; exact hW)⟩, hS.F ht⟩) (fun q9 h9 => hS.2.2 q9 h9) dL_steps_16

set_option maxHeartbeats 4000000 in
set_option maxRecDepth 100000 in
theorem h_leastCost_ok (l : Launch) (D : va_G) (cs : Nat → ClassId) (S0 ea mi : Nat) (sa : Nat → Nat) (Y : va_W) (a : Nat → Nat) (u : XU) (sg : St) (hF : XF cs ea u sg Y) (ol : Nat) (f : Nat → Int64) (p0 : Int32) (p1 : Int32) (R9 : Int32) (τ : St) (hM : xOK l D cs S0 ea mi sa ((ol, la cs f) :: Y) a u sg yX2_leastCost wsX2_leastCost [.ref (a 0), .int p0, .int p1] R9 τ) : hOK l D cs S0 ea mi sa Y a u sg ol f yL_leastCost wsL_leastCost [.ref (a 0), .int p0, .int p1, .ref ol] 0 R9.toInt64 τ := by
  refine z_ofWH (cc := cL_leastCost) (maxL := 5) (ret := (some .int)) (hh := [(0, 10, 13, 25)]) (by decide) rfl ?_
  intro p e s m args below meth c s₁ B hml hv
  obtain ⟨⟨rfl, hW, hK, hE⟩, hN⟩ := hv
  have hx := B.exec
  have hb := B.bytes
  have hr := B.returns
  have hts := atoms_spec (ws := wsL_leastCost) B.pre
  have hown : s.vm.findClass RL = some m.cls := findClass_of_methodNamed B.named
  have hlocks := B.notSynchronized
  have hRc : (headSpec wsL_leastCost RmH).room.cells = 5 := rfl
  have hRs : (headSpec wsL_leastCost RmH).room.slots = 1607 := rfl
  have hW : Wd D S0 ((ol, la cs f) :: XW cs a u sg Y) s.heap := hW
  have hS : va_S (SA S0) s.heap s.heap [] := va_S.rf
  have hl := lv_entry ([.ref (a 0), .int p0, .int p1, .ref ol]) (n := 5) (Nat.le_of_ble_eq_true rfl)
  rw [lg_entry_eq]
  generalize (lg_sl ([.ref (a 0), .int p0, .int p1, .ref ol]) ++ List.replicate (5 - (lg_sl ([.ref (a 0), .int p0, .int p1, .ref ol])).length) Slot.unset).toArray = ls at hl ⊢
  have hl : lv_has ls 5 [(0, .ref (a 0)), (1, .int p0), (2, .int p1), (3, .ref ol)] := hl
  refine lv_aload_n hx hb dL_leastCost_0 rfl (lv_at hl 3 rfl) ?_
  refine lv_iconst (v := nI 0) hx hb dL_leastCost_1 (by decide) ?_
  refine lv_aload_n hx hb dL_leastCost_2 rfl (lv_at hl 0 rfl) ?_
  refine lv_iload_n hx hb dL_leastCost_3 rfl (lv_at hl 1 rfl) ?_
  refine lv_iload_n hx hb dL_leastCost_4 rfl (lv_at hl 2 rfl) ?_
  have hW2 : Wd D S0 (XW cs a u sg ((ol, la cs f) :: Y)) s.heap := XW.push hW
  have hF2 : XF cs ea u sg ((ol, la cs f) :: Y) := hF.more (fun q9 h9 => List.mem_cons_of_mem _ h9)
  refine z_cmI (va_runV (As := [.int p0, .int p1]) (rest := [.int (nI 0), .ref ol]) ⟨hx, hb, hml, hown, hts⟩ hM (cwV 2 hts gL_leastCost_X2_leastCost rfl rfl rfl (by decide +kernel) ⟨Nat.le_of_ble_eq_true rfl, Nat.le_of_ble_eq_true rfl⟩) ⟨zE_blind, z_recv hK (hW2.1 0 _ rfl) rfl, zE_pre hW2 hK hE hS⟩ rfl rfl hl.1 rfl (lv_room (Nat.le_of_ble_eq_true rfl)) dL_leastCost_5 ⟨Nat.le_of_ble_eq_true rfl, Nat.le_of_ble_eq_true rfl⟩) hS (fun r v H locs hu hW hS => ?_)
  obtain ⟨hu1, hu2⟩ := hu
  rw [hu1]
  have hW := XW.pull hW
  have hF3 : XF cs ea v.1 τ (v.2 ++ Y) := hu2.sel (sel_drop (A := [(ol, la cs f)]) (fun q9 h9 => by rw [List.mem_singleton.mp h9]; exact okE_la))
  have hW : Wd D S0 ((ol, la cs f) :: XW cs a v.1 τ (v.2 ++ Y)) H := hW
  refine lv_i2l (v := R9.toInt64) hx hb dL_leastCost_8 rfl ?_
  refine z_last hx hb hK hW hS dL_leastCost_9 (fun H locs g9 hg9 hW hS => ?_)
  have hW : Wd D S0 ((ol, la cs g9) :: XW cs a v.1 τ (v.2 ++ Y)) H := hW
  refine lv_goto (tgt := 17) hx hb dL_leastCost_10 (by decide) ?_
  refine lv_iconst (v := nI 0) hx hb dL_leastCost_17 (by decide) ?_
  refine W.widen (k := 5) (n := 1607) (by omega) (by omega) ?_
  exact W.iret (v := nI 0) hx hb hr (fun t ht hW9 => ⟨⟨_, (v.1, v.2, g9), rfl, ⟨rfl, fun _ => hg9, hF3⟩, (by show Wd D S0 _ _; rw [ht]; exact hW)⟩, hS.F ht⟩) (fun q9 h9 => hS.2.2 q9 h9) dL_leastCost_18

set_option maxHeartbeats 4000000 in
set_option maxRecDepth 100000 in
theorem h_leastCost_IO (l : Launch) (D : va_G) (cs : Nat → ClassId) (S0 ea mi : Nat) (sa : Nat → Nat) (Y : va_W) (a : Nat → Nat) (u : XU) (sg : St) (hF : XF cs ea u sg Y) (ol : Nat) (f : Nat → Int64) (p0 : Int32) (p1 : Int32) (R9 : Int64) (hM : vT l yX2_leastCost wsX2_leastCost RmT (zE [.ref (a 0), .int p0, .int p1] (fun H => XH D cs a u sg H) D cs S0 ea mi sa) eIO) : hOK l D cs S0 ea mi sa Y a u sg ol f yL_leastCost wsL_leastCost [.ref (a 0), .int p0, .int p1, .ref ol] 1 R9 sg := by
  refine z_ofWH (cc := cL_leastCost) (maxL := 5) (ret := (some .int)) (hh := [(0, 10, 13, 25)]) (by decide) rfl ?_
  intro p e s m args below meth c s₁ B hml hv
  obtain ⟨⟨rfl, hW, hK, hE⟩, hN⟩ := hv
  have hx := B.exec
  have hb := B.bytes
  have hr := B.returns
  have hts := atoms_spec (ws := wsL_leastCost) B.pre
  have hown : s.vm.findClass RL = some m.cls := findClass_of_methodNamed B.named
  have hlocks := B.notSynchronized
  have htab : c.exceptionTable.toList = tableOf [(0, 10, 13, 25)] := vx_table (x := yL_leastCost) B (hts _ List.mem_cons_self)
  have hRc : (headSpec wsL_leastCost RmH).room.cells = 5 := rfl
  have hRs : (headSpec wsL_leastCost RmH).room.slots = 1607 := rfl
  have hW : Wd D S0 ((ol, la cs f) :: XW cs a u sg Y) s.heap := hW
  have hS : va_S (SA S0) s.heap s.heap [] := va_S.rf
  have hl := lv_entry ([.ref (a 0), .int p0, .int p1, .ref ol]) (n := 5) (Nat.le_of_ble_eq_true rfl)
  rw [lg_entry_eq]
  generalize (lg_sl ([.ref (a 0), .int p0, .int p1, .ref ol]) ++ List.replicate (5 - (lg_sl ([.ref (a 0), .int p0, .int p1, .ref ol])).length) Slot.unset).toArray = ls at hl ⊢
  have hl : lv_has ls 5 [(0, .ref (a 0)), (1, .int p0), (2, .int p1), (3, .ref ol)] := hl
  refine lv_aload_n hx hb dL_leastCost_0 rfl (lv_at hl 3 rfl) ?_
  refine lv_iconst (v := nI 0) hx hb dL_leastCost_1 (by decide) ?_
  refine lv_aload_n hx hb dL_leastCost_2 rfl (lv_at hl 0 rfl) ?_
  refine lv_iload_n hx hb dL_leastCost_3 rfl (lv_at hl 1 rfl) ?_
  refine lv_iload_n hx hb dL_leastCost_4 rfl (lv_at hl 2 rfl) ?_
  have hW2 : Wd D S0 (XW cs a u sg ((ol, la cs f) :: Y)) s.heap := XW.push hW
  have hF2 : XF cs ea u sg ((ol, la cs f) :: Y) := hF.more (fun q9 h9 => List.mem_cons_of_mem _ h9)
  have hPH2 := XH.of (D := D) hW2 hF2
  refine z_cat (vx_runV (As := [.int p0, .int p1]) (rest := [.int (nI 0), .ref ol]) ⟨hx, hb, hml, hown, hts⟩ hM (cwV 2 hts gL_leastCost_X2_leastCost rfl rfl rfl (by decide +kernel) ⟨Nat.le_of_ble_eq_true rfl, Nat.le_of_ble_eq_true rfl⟩) ⟨zE_blind, z_recv hK (hW2.1 0 _ rfl) rfl, zE_pre hPH2 hK hE va_S.rf⟩ rfl rfl hl.1 rfl (lv_room (Nat.le_of_ble_eq_true rfl)) dL_leastCost_5 ⟨Nat.le_of_ble_eq_true rfl, Nat.le_of_ble_eq_true rfl⟩) (fun H q8 ce hz9 hk9 hq1 hq2 hq3 => ?_)
  have hW : Wd D S0 ((ol, la cs f) :: XW cs a u sg Y) H := hW.kept hz9 hk9
  have hS : va_S (SA S0) s.heap H [] := ⟨hz9, fun q9 h9 _ => hk9 q9 h9, fun q9 h9 => absurd h9 List.not_mem_nil⟩
  refine vx_catch (name := eIO) hown [] ⟨0, 10, 13, 25⟩ [] htab (fun z9 h9 => absurd h9 List.not_mem_nil) (by decide) (by decide) (hts (.classLink RL 25 eIO) (by decide +kernel)) (va_Nw.use rfl (hE.2.2.2.2.1 (eIO, eIO) (by decide))) hq1 hq2 hq3 ?_
  refine lv_astore (lv' := [(4, .ref q8), (0, .ref (a 0)), (1, .int p0), (2, .int p1), (3, .ref ol)]) hx hb dL_leastCost_13 hl (by decide) rfl (fun ls hl => ?_)
  refine lv_iconst (v := nI 1) hx hb dL_leastCost_15 (by decide) ?_
  refine W.widen (k := 5) (n := 1607) (by omega) (by omega) ?_
  exact W.iret (v := nI 1) hx hb hr (fun t ht hW9 => ⟨⟨_, (u, [], f), rfl, ⟨rfl, fun h9 => absurd h9 (by decide), hF⟩, (by show Wd D S0 _ _; rw [ht]; exact hW)⟩, hS.F ht⟩) (fun q9 h9 => hS.2.2 q9 h9) dL_leastCost_16

set_option maxHeartbeats 4000000 in
set_option maxRecDepth 100000 in
theorem h_installVersion_ok (l : Launch) (D : va_G) (cs : Nat → ClassId) (S0 ea mi : Nat) (sa : Nat → Nat) (Y : va_W) (a : Nat → Nat) (u : XU) (sg : St) (hF : XF cs ea u sg Y) (ol : Nat) (f : Nat → Int64) (p0 : Int32) (R9 : Int32) (τ : St) (hM : xOK l D cs S0 ea mi sa ((ol, la cs f) :: Y) a u sg yX2_installVersion wsX2_installVersion [.ref (a 0), .int p0] R9 τ) : hOK l D cs S0 ea mi sa Y a u sg ol f yL_installVersion wsL_installVersion [.ref (a 0), .int p0, .ref ol] 0 R9.toInt64 τ := by
  refine z_ofWH (cc := cL_installVersion) (maxL := 4) (ret := (some .int)) (hh := [(0, 9, 12, 25)]) (by decide) rfl ?_
  intro p e s m args below meth c s₁ B hml hv
  obtain ⟨⟨rfl, hW, hK, hE⟩, hN⟩ := hv
  have hx := B.exec
  have hb := B.bytes
  have hr := B.returns
  have hts := atoms_spec (ws := wsL_installVersion) B.pre
  have hown : s.vm.findClass RL = some m.cls := findClass_of_methodNamed B.named
  have hlocks := B.notSynchronized
  have hRc : (headSpec wsL_installVersion RmH).room.cells = 5 := rfl
  have hRs : (headSpec wsL_installVersion RmH).room.slots = 1607 := rfl
  have hW : Wd D S0 ((ol, la cs f) :: XW cs a u sg Y) s.heap := hW
  have hS : va_S (SA S0) s.heap s.heap [] := va_S.rf
  have hl := lv_entry ([.ref (a 0), .int p0, .ref ol]) (n := 4) (Nat.le_of_ble_eq_true rfl)
  rw [lg_entry_eq]
  generalize (lg_sl ([.ref (a 0), .int p0, .ref ol]) ++ List.replicate (4 - (lg_sl ([.ref (a 0), .int p0, .ref ol])).length) Slot.unset).toArray = ls at hl ⊢
  have hl : lv_has ls 4 [(0, .ref (a 0)), (1, .int p0), (2, .ref ol)] := hl
  refine lv_aload_n hx hb dL_installVersion_0 rfl (lv_at hl 2 rfl) ?_
  refine lv_iconst (v := nI 0) hx hb dL_installVersion_1 (by decide) ?_
  refine lv_aload_n hx hb dL_installVersion_2 rfl (lv_at hl 0 rfl) ?_
  refine lv_iload_n hx hb dL_installVersion_3 rfl (lv_at hl 1 rfl) ?_
  have hW2 : Wd D S0 (XW cs a u sg ((ol, la cs f) :: Y)) s.heap := XW.push hW
  have hF2 : XF cs ea u sg ((ol, la cs f) :: Y) := hF.more (fun q9 h9 => List.mem_cons_of_mem _ h9)
  refine z_cmI (va_runV (As := [.int p0]) (rest := [.int (nI 0), .ref ol]) ⟨hx, hb, hml, hown, hts⟩ hM (cwV 1 hts gL_installVersion_X2_installVersion rfl rfl rfl (by decide +kernel) ⟨Nat.le_of_ble_eq_true rfl, Nat.le_of_ble_eq_true rfl⟩) ⟨zE_blind, z_recv hK (hW2.1 0 _ rfl) rfl, zE_pre hW2 hK hE hS⟩ rfl rfl hl.1 rfl (lv_room (Nat.le_of_ble_eq_true rfl)) dL_installVersion_4 ⟨Nat.le_of_ble_eq_true rfl, Nat.le_of_ble_eq_true rfl⟩) hS (fun r v H locs hu hW hS => ?_)
  obtain ⟨hu1, hu2⟩ := hu
  rw [hu1]
  have hW := XW.pull hW
  have hF3 : XF cs ea v.1 τ (v.2 ++ Y) := hu2.sel (sel_drop (A := [(ol, la cs f)]) (fun q9 h9 => by rw [List.mem_singleton.mp h9]; exact okE_la))
  have hW : Wd D S0 ((ol, la cs f) :: XW cs a v.1 τ (v.2 ++ Y)) H := hW
  refine lv_i2l (v := R9.toInt64) hx hb dL_installVersion_7 rfl ?_
  refine z_last hx hb hK hW hS dL_installVersion_8 (fun H locs g9 hg9 hW hS => ?_)
  have hW : Wd D S0 ((ol, la cs g9) :: XW cs a v.1 τ (v.2 ++ Y)) H := hW
  refine lv_goto (tgt := 15) hx hb dL_installVersion_9 (by decide) ?_
  refine lv_iconst (v := nI 0) hx hb dL_installVersion_15 (by decide) ?_
  refine W.widen (k := 5) (n := 1607) (by omega) (by omega) ?_
  exact W.iret (v := nI 0) hx hb hr (fun t ht hW9 => ⟨⟨_, (v.1, v.2, g9), rfl, ⟨rfl, fun _ => hg9, hF3⟩, (by show Wd D S0 _ _; rw [ht]; exact hW)⟩, hS.F ht⟩) (fun q9 h9 => hS.2.2 q9 h9) dL_installVersion_16

set_option maxHeartbeats 4000000 in
set_option maxRecDepth 100000 in
theorem h_installVersion_IO (l : Launch) (D : va_G) (cs : Nat → ClassId) (S0 ea mi : Nat) (sa : Nat → Nat) (Y : va_W) (a : Nat → Nat) (u : XU) (sg : St) (hF : XF cs ea u sg Y) (ol : Nat) (f : Nat → Int64) (p0 : Int32) (R9 : Int64) (hM : vT l yX2_installVersion wsX2_installVersion RmT (zE [.ref (a 0), .int p0] (fun H => XH D cs a u sg H) D cs S0 ea mi sa) eIO) : hOK l D cs S0 ea mi sa Y a u sg ol f yL_installVersion wsL_installVersion [.ref (a 0), .int p0, .ref ol] 1 R9 sg := by
  refine z_ofWH (cc := cL_installVersion) (maxL := 4) (ret := (some .int)) (hh := [(0, 9, 12, 25)]) (by decide) rfl ?_
  intro p e s m args below meth c s₁ B hml hv
  obtain ⟨⟨rfl, hW, hK, hE⟩, hN⟩ := hv
  have hx := B.exec
  have hb := B.bytes
  have hr := B.returns
  have hts := atoms_spec (ws := wsL_installVersion) B.pre
  have hown : s.vm.findClass RL = some m.cls := findClass_of_methodNamed B.named
  have hlocks := B.notSynchronized
  have htab : c.exceptionTable.toList = tableOf [(0, 9, 12, 25)] := vx_table (x := yL_installVersion) B (hts _ List.mem_cons_self)
  have hRc : (headSpec wsL_installVersion RmH).room.cells = 5 := rfl
  have hRs : (headSpec wsL_installVersion RmH).room.slots = 1607 := rfl
  have hW : Wd D S0 ((ol, la cs f) :: XW cs a u sg Y) s.heap := hW
  have hS : va_S (SA S0) s.heap s.heap [] := va_S.rf
  have hl := lv_entry ([.ref (a 0), .int p0, .ref ol]) (n := 4) (Nat.le_of_ble_eq_true rfl)
  rw [lg_entry_eq]
  generalize (lg_sl ([.ref (a 0), .int p0, .ref ol]) ++ List.replicate (4 - (lg_sl ([.ref (a 0), .int p0, .ref ol])).length) Slot.unset).toArray = ls at hl ⊢
  have hl : lv_has ls 4 [(0, .ref (a 0)), (1, .int p0), (2, .ref ol)] := hl
  refine lv_aload_n hx hb dL_installVersion_0 rfl (lv_at hl 2 rfl) ?_
  refine lv_iconst (v := nI 0) hx hb dL_installVersion_1 (by decide) ?_
  refine lv_aload_n hx hb dL_installVersion_2 rfl (lv_at hl 0 rfl) ?_
  refine lv_iload_n hx hb dL_installVersion_3 rfl (lv_at hl 1 rfl) ?_
  have hW2 : Wd D S0 (XW cs a u sg ((ol, la cs f) :: Y)) s.heap := XW.push hW
  have hF2 : XF cs ea u sg ((ol, la cs f) :: Y) := hF.more (fun q9 h9 => List.mem_cons_of_mem _ h9)
  have hPH2 := XH.of (D := D) hW2 hF2
  refine z_cat (vx_runV (As := [.int p0]) (rest := [.int (nI 0), .ref ol]) ⟨hx, hb, hml, hown, hts⟩ hM (cwV 1 hts gL_installVersion_X2_installVersion rfl rfl rfl (by decide +kernel) ⟨Nat.le_of_ble_eq_true rfl, Nat.le_of_ble_eq_true rfl⟩) ⟨zE_blind, z_recv hK (hW2.1 0 _ rfl) rfl, zE_pre hPH2 hK hE va_S.rf⟩ rfl rfl hl.1 rfl (lv_room (Nat.le_of_ble_eq_true rfl)) dL_installVersion_4 ⟨Nat.le_of_ble_eq_true rfl, Nat.le_of_ble_eq_true rfl⟩) (fun H q8 ce hz9 hk9 hq1 hq2 hq3 => ?_)
  have hW : Wd D S0 ((ol, la cs f) :: XW cs a u sg Y) H := hW.kept hz9 hk9
  have hS : va_S (SA S0) s.heap H [] := ⟨hz9, fun q9 h9 _ => hk9 q9 h9, fun q9 h9 => absurd h9 List.not_mem_nil⟩
  refine vx_catch (name := eIO) hown [] ⟨0, 9, 12, 25⟩ [] htab (fun z9 h9 => absurd h9 List.not_mem_nil) (by decide) (by decide) (hts (.classLink RL 25 eIO) (by decide +kernel)) (va_Nw.use rfl (hE.2.2.2.2.1 (eIO, eIO) (by decide))) hq1 hq2 hq3 ?_
  refine lv_astore_n (lv' := [(3, .ref q8), (0, .ref (a 0)), (1, .int p0), (2, .ref ol)]) hx hb dL_installVersion_12 rfl hl (by decide) rfl (fun ls hl => ?_)
  refine lv_iconst (v := nI 1) hx hb dL_installVersion_13 (by decide) ?_
  refine W.widen (k := 5) (n := 1607) (by omega) (by omega) ?_
  exact W.iret (v := nI 1) hx hb hr (fun t ht hW9 => ⟨⟨_, (u, [], f), rfl, ⟨rfl, fun h9 => absurd h9 (by decide), hF⟩, (by show Wd D S0 _ _; rw [ht]; exact hW)⟩, hS.F ht⟩) (fun q9 h9 => hS.2.2 q9 h9) dL_installVersion_14

set_option maxHeartbeats 4000000 in
set_option maxRecDepth 100000 in
theorem h_installPatch_ok (l : Launch) (D : va_G) (cs : Nat → ClassId) (S0 ea mi : Nat) (sa : Nat → Nat) (Y : va_W) (a : Nat → Nat) (u : XU) (sg : St) (hF : XF cs ea u sg Y) (ol : Nat) (f : Nat → Int64) (p0 : Int32) (R9 : Int32) (τ : St) (hM : xOK l D cs S0 ea mi sa ((ol, la cs f) :: Y) a u sg yX2_installPatch wsX2_installPatch [.ref (a 0), .int p0] R9 τ) : hOK l D cs S0 ea mi sa Y a u sg ol f yL_installPatch wsL_installPatch [.ref (a 0), .int p0, .ref ol] 0 R9.toInt64 τ := by
  refine z_ofWH (cc := cL_installPatch) (maxL := 4) (ret := (some .int)) (hh := [(0, 9, 12, 25), (0, 9, 15, 13)]) (by decide) rfl ?_
  intro p e s m args below meth c s₁ B hml hv
  obtain ⟨⟨rfl, hW, hK, hE⟩, hN⟩ := hv
  have hx := B.exec
  have hb := B.bytes
  have hr := B.returns
  have hts := atoms_spec (ws := wsL_installPatch) B.pre
  have hown : s.vm.findClass RL = some m.cls := findClass_of_methodNamed B.named
  have hlocks := B.notSynchronized
  have hRc : (headSpec wsL_installPatch RmH).room.cells = 5 := rfl
  have hRs : (headSpec wsL_installPatch RmH).room.slots = 1607 := rfl
  have hW : Wd D S0 ((ol, la cs f) :: XW cs a u sg Y) s.heap := hW
  have hS : va_S (SA S0) s.heap s.heap [] := va_S.rf
  have hl := lv_entry ([.ref (a 0), .int p0, .ref ol]) (n := 4) (Nat.le_of_ble_eq_true rfl)
  rw [lg_entry_eq]
  generalize (lg_sl ([.ref (a 0), .int p0, .ref ol]) ++ List.replicate (4 - (lg_sl ([.ref (a 0), .int p0, .ref ol])).length) Slot.unset).toArray = ls at hl ⊢
  have hl : lv_has ls 4 [(0, .ref (a 0)), (1, .int p0), (2, .ref ol)] := hl
  refine lv_aload_n hx hb dL_installPatch_0 rfl (lv_at hl 2 rfl) ?_
  refine lv_iconst (v := nI 0) hx hb dL_installPatch_1 (by decide) ?_
  refine lv_aload_n hx hb dL_installPatch_2 rfl (lv_at hl 0 rfl) ?_
  refine lv_iload_n hx hb dL_installPatch_3 rfl (lv_at hl 1 rfl) ?_
  have hW2 : Wd D S0 (XW cs a u sg ((ol, la cs f) :: Y)) s.heap := XW.push hW
  have hF2 : XF cs ea u sg ((ol, la cs f) :: Y) := hF.more (fun q9 h9 => List.mem_cons_of_mem _ h9)
  refine z_cmI (va_runV (As := [.int p0]) (rest := [.int (nI 0), .ref ol]) ⟨hx, hb, hml, hown, hts⟩ hM (cwV 1 hts gL_installPatch_X2_installPatch rfl rfl rfl (by decide +kernel) ⟨Nat.le_of_ble_eq_true rfl, Nat.le_of_ble_eq_true rfl⟩) ⟨zE_blind, z_recv hK (hW2.1 0 _ rfl) rfl, zE_pre hW2 hK hE hS⟩ rfl rfl hl.1 rfl (lv_room (Nat.le_of_ble_eq_true rfl)) dL_installPatch_4 ⟨Nat.le_of_ble_eq_true rfl, Nat.le_of_ble_eq_true rfl⟩) hS (fun r v H locs hu hW hS => ?_)
  obtain ⟨hu1, hu2⟩ := hu
  rw [hu1]
  have hW := XW.pull hW
  have hF3 : XF cs ea v.1 τ (v.2 ++ Y) := hu2.sel (sel_drop (A := [(ol, la cs f)]) (fun q9 h9 => by rw [List.mem_singleton.mp h9]; exact okE_la))
  have hW : Wd D S0 ((ol, la cs f) :: XW cs a v.1 τ (v.2 ++ Y)) H := hW
  refine lv_i2l (v := R9.toInt64) hx hb dL_installPatch_7 rfl ?_
  refine z_last hx hb hK hW hS dL_installPatch_8 (fun H locs g9 hg9 hW hS => ?_)
  have hW : Wd D S0 ((ol, la cs g9) :: XW cs a v.1 τ (v.2 ++ Y)) H := hW
  refine lv_goto (tgt := 18) hx hb dL_installPatch_9 (by decide) ?_
  refine lv_iconst (v := nI 0) hx hb dL_installPatch_18 (by decide) ?_
  refine W.widen (k := 5) (n := 1607) (by omega) (by omega) ?_
  exact W.iret (v := nI 0) hx hb hr (fun t ht hW9 => ⟨⟨_, (v.1, v.2, g9), rfl, ⟨rfl, fun _ => hg9, hF3⟩, (by show Wd D S0 _ _; rw [ht]; exact hW)⟩, hS.F ht⟩) (fun q9 h9 => hS.2.2 q9 h9) dL_installPatch_19

set_option maxHeartbeats 4000000 in
set_option maxRecDepth 100000 in
theorem h_installPatch_IO (l : Launch) (D : va_G) (cs : Nat → ClassId) (S0 ea mi : Nat) (sa : Nat → Nat) (Y : va_W) (a : Nat → Nat) (u : XU) (sg : St) (hF : XF cs ea u sg Y) (ol : Nat) (f : Nat → Int64) (p0 : Int32) (R9 : Int64) (hM : vT l yX2_installPatch wsX2_installPatch RmT (zE [.ref (a 0), .int p0] (fun H => XH D cs a u sg H) D cs S0 ea mi sa) eIO) : hOK l D cs S0 ea mi sa Y a u sg ol f yL_installPatch wsL_installPatch [.ref (a 0), .int p0, .ref ol] 1 R9 sg := by
  refine z_ofWH (cc := cL_installPatch) (maxL := 4) (ret := (some .int)) (hh := [(0, 9, 12, 25), (0, 9, 15, 13)]) (by decide) rfl ?_
  intro p e s m args below meth c s₁ B hml hv
  obtain ⟨⟨rfl, hW, hK, hE⟩, hN⟩ := hv
  have hx := B.exec
  have hb := B.bytes
  have hr := B.returns
  have hts := atoms_spec (ws := wsL_installPatch) B.pre
  have hown : s.vm.findClass RL = some m.cls := findClass_of_methodNamed B.named
  have hlocks := B.notSynchronized
  have htab : c.exceptionTable.toList = tableOf [(0, 9, 12, 25), (0, 9, 15, 13)] := vx_table (x := yL_installPatch) B (hts _ List.mem_cons_self)
  have hRc : (headSpec wsL_installPatch RmH).room.cells = 5 := rfl
  have hRs : (headSpec wsL_installPatch RmH).room.slots = 1607 := rfl
  have hW : Wd D S0 ((ol, la cs f) :: XW cs a u sg Y) s.heap := hW
  have hS : va_S (SA S0) s.heap s.heap [] := va_S.rf
  have hl := lv_entry ([.ref (a 0), .int p0, .ref ol]) (n := 4) (Nat.le_of_ble_eq_true rfl)
  rw [lg_entry_eq]
  generalize (lg_sl ([.ref (a 0), .int p0, .ref ol]) ++ List.replicate (4 - (lg_sl ([.ref (a 0), .int p0, .ref ol])).length) Slot.unset).toArray = ls at hl ⊢
  have hl : lv_has ls 4 [(0, .ref (a 0)), (1, .int p0), (2, .ref ol)] := hl
  refine lv_aload_n hx hb dL_installPatch_0 rfl (lv_at hl 2 rfl) ?_
  refine lv_iconst (v := nI 0) hx hb dL_installPatch_1 (by decide) ?_
  refine lv_aload_n hx hb dL_installPatch_2 rfl (lv_at hl 0 rfl) ?_
  refine lv_iload_n hx hb dL_installPatch_3 rfl (lv_at hl 1 rfl) ?_
  have hW2 : Wd D S0 (XW cs a u sg ((ol, la cs f) :: Y)) s.heap := XW.push hW
  have hF2 : XF cs ea u sg ((ol, la cs f) :: Y) := hF.more (fun q9 h9 => List.mem_cons_of_mem _ h9)
  have hPH2 := XH.of (D := D) hW2 hF2
  refine z_cat (vx_runV (As := [.int p0]) (rest := [.int (nI 0), .ref ol]) ⟨hx, hb, hml, hown, hts⟩ hM (cwV 1 hts gL_installPatch_X2_installPatch rfl rfl rfl (by decide +kernel) ⟨Nat.le_of_ble_eq_true rfl, Nat.le_of_ble_eq_true rfl⟩) ⟨zE_blind, z_recv hK (hW2.1 0 _ rfl) rfl, zE_pre hPH2 hK hE va_S.rf⟩ rfl rfl hl.1 rfl (lv_room (Nat.le_of_ble_eq_true rfl)) dL_installPatch_4 ⟨Nat.le_of_ble_eq_true rfl, Nat.le_of_ble_eq_true rfl⟩) (fun H q8 ce hz9 hk9 hq1 hq2 hq3 => ?_)
  have hW : Wd D S0 ((ol, la cs f) :: XW cs a u sg Y) H := hW.kept hz9 hk9
  have hS : va_S (SA S0) s.heap H [] := ⟨hz9, fun q9 h9 _ => hk9 q9 h9, fun q9 h9 => absurd h9 List.not_mem_nil⟩
  refine vx_catch (name := eIO) hown [] ⟨0, 9, 12, 25⟩ [⟨0, 9, 15, 13⟩] htab (fun z9 h9 => absurd h9 List.not_mem_nil) (by decide) (by decide) (hts (.classLink RL 25 eIO) (by decide +kernel)) (va_Nw.use rfl (hE.2.2.2.2.1 (eIO, eIO) (by decide))) hq1 hq2 hq3 ?_
  refine lv_astore_n (lv' := [(3, .ref q8), (0, .ref (a 0)), (1, .int p0), (2, .ref ol)]) hx hb dL_installPatch_12 rfl hl (by decide) rfl (fun ls hl => ?_)
  refine lv_iconst (v := nI 1) hx hb dL_installPatch_13 (by decide) ?_
  refine W.widen (k := 5) (n := 1607) (by omega) (by omega) ?_
  exact W.iret (v := nI 1) hx hb hr (fun t ht hW9 => ⟨⟨_, (u, [], f), rfl, ⟨rfl, fun h9 => absurd h9 (by decide), hF⟩, (by show Wd D S0 _ _; rw [ht]; exact hW)⟩, hS.F ht⟩) (fun q9 h9 => hS.2.2 q9 h9) dL_installPatch_14

set_option maxHeartbeats 4000000 in
set_option maxRecDepth 100000 in
theorem h_installPatch_IA (l : Launch) (D : va_G) (cs : Nat → ClassId) (S0 ea mi : Nat) (sa : Nat → Nat) (Y : va_W) (a : Nat → Nat) (u : XU) (sg : St) (hF : XF cs ea u sg Y) (ol : Nat) (f : Nat → Int64) (p0 : Int32) (R9 : Int64) (hM : vT l yX2_installPatch wsX2_installPatch RmT (zE [.ref (a 0), .int p0] (fun H => XH D cs a u sg H) D cs S0 ea mi sa) eIA) : hOK l D cs S0 ea mi sa Y a u sg ol f yL_installPatch wsL_installPatch [.ref (a 0), .int p0, .ref ol] 2 R9 sg := by
  refine z_ofWH (cc := cL_installPatch) (maxL := 4) (ret := (some .int)) (hh := [(0, 9, 12, 25), (0, 9, 15, 13)]) (by decide) rfl ?_
  intro p e s m args below meth c s₁ B hml hv
  obtain ⟨⟨rfl, hW, hK, hE⟩, hN⟩ := hv
  have hx := B.exec
  have hb := B.bytes
  have hr := B.returns
  have hts := atoms_spec (ws := wsL_installPatch) B.pre
  have hown : s.vm.findClass RL = some m.cls := findClass_of_methodNamed B.named
  have hlocks := B.notSynchronized
  have htab : c.exceptionTable.toList = tableOf [(0, 9, 12, 25), (0, 9, 15, 13)] := vx_table (x := yL_installPatch) B (hts _ List.mem_cons_self)
  have hRc : (headSpec wsL_installPatch RmH).room.cells = 5 := rfl
  have hRs : (headSpec wsL_installPatch RmH).room.slots = 1607 := rfl
  have hW : Wd D S0 ((ol, la cs f) :: XW cs a u sg Y) s.heap := hW
  have hS : va_S (SA S0) s.heap s.heap [] := va_S.rf
  have hl := lv_entry ([.ref (a 0), .int p0, .ref ol]) (n := 4) (Nat.le_of_ble_eq_true rfl)
  rw [lg_entry_eq]
  generalize (lg_sl ([.ref (a 0), .int p0, .ref ol]) ++ List.replicate (4 - (lg_sl ([.ref (a 0), .int p0, .ref ol])).length) Slot.unset).toArray = ls at hl ⊢
  have hl : lv_has ls 4 [(0, .ref (a 0)), (1, .int p0), (2, .ref ol)] := hl
  refine lv_aload_n hx hb dL_installPatch_0 rfl (lv_at hl 2 rfl) ?_
  refine lv_iconst (v := nI 0) hx hb dL_installPatch_1 (by decide) ?_
  refine lv_aload_n hx hb dL_installPatch_2 rfl (lv_at hl 0 rfl) ?_
  refine lv_iload_n hx hb dL_installPatch_3 rfl (lv_at hl 1 rfl) ?_
  have hW2 : Wd D S0 (XW cs a u sg ((ol, la cs f) :: Y)) s.heap := XW.push hW
  have hF2 : XF cs ea u sg ((ol, la cs f) :: Y) := hF.more (fun q9 h9 => List.mem_cons_of_mem _ h9)
  have hPH2 := XH.of (D := D) hW2 hF2
  refine z_cat (vx_runV (As := [.int p0]) (rest := [.int (nI 0), .ref ol]) ⟨hx, hb, hml, hown, hts⟩ hM (cwV 1 hts gL_installPatch_X2_installPatch rfl rfl rfl (by decide +kernel) ⟨Nat.le_of_ble_eq_true rfl, Nat.le_of_ble_eq_true rfl⟩) ⟨zE_blind, z_recv hK (hW2.1 0 _ rfl) rfl, zE_pre hPH2 hK hE va_S.rf⟩ rfl rfl hl.1 rfl (lv_room (Nat.le_of_ble_eq_true rfl)) dL_installPatch_4 ⟨Nat.le_of_ble_eq_true rfl, Nat.le_of_ble_eq_true rfl⟩) (fun H q8 ce hz9 hk9 hq1 hq2 hq3 => ?_)
  have hW : Wd D S0 ((ol, la cs f) :: XW cs a u sg Y) H := hW.kept hz9 hk9
  have hS : va_S (SA S0) s.heap H [] := ⟨hz9, fun q9 h9 _ => hk9 q9 h9, fun q9 h9 => absurd h9 List.not_mem_nil⟩
  refine vx_catch (name := eIA) hown [⟨0, 9, 12, 25⟩] ⟨0, 9, 15, 13⟩ [] htab (fun z9 h9 => by
      rw [List.mem_singleton.mp h9]
      exact Or.inr ⟨by decide, eIO, hts (.classLink RL 25 eIO) (by decide +kernel), hN.1⟩) (by decide) (by decide) (hts (.classLink RL 13 eIA) (by decide +kernel)) (va_Nw.use rfl (hE.2.2.2.2.1 (eIA, eIA) (by decide))) hq1 hq2 hq3 ?_
  refine lv_astore_n (lv' := [(3, .ref q8), (0, .ref (a 0)), (1, .int p0), (2, .ref ol)]) hx hb dL_installPatch_15 rfl hl (by decide) rfl (fun ls hl => ?_)
  refine lv_iconst (v := nI 2) hx hb dL_installPatch_16 (by decide) ?_
  refine W.widen (k := 5) (n := 1607) (by omega) (by omega) ?_
  exact W.iret (v := nI 2) hx hb hr (fun t ht hW9 => ⟨⟨_, (u, [], f), rfl, ⟨rfl, fun h9 => absurd h9 (by decide), hF⟩, (by show Wd D S0 _ _; rw [ht]; exact hW)⟩, hS.F ht⟩) (fun q9 h9 => hS.2.2 q9 h9) dL_installPatch_17

set_option maxHeartbeats 4000000 in
set_option maxRecDepth 100000 in
theorem h_rollBack_ok (l : Launch) (D : va_G) (cs : Nat → ClassId) (S0 ea mi : Nat) (sa : Nat → Nat) (Y : va_W) (a : Nat → Nat) (u : XU) (sg : St) (hF : XF cs ea u sg Y) (ol : Nat) (f : Nat → Int64)  (R9 : Int32) (τ : St) (hM : xOK l D cs S0 ea mi sa ((ol, la cs f) :: Y) a u sg yX2_rollBack wsX2_rollBack [.ref (a 0)] R9 τ) : hOK l D cs S0 ea mi sa Y a u sg ol f yL_rollBack wsL_rollBack [.ref (a 0), .ref ol] 0 R9.toInt64 τ := by
  refine z_ofWH (cc := cL_rollBack) (maxL := 3) (ret := (some .int)) (hh := [(0, 8, 11, 15)]) (by decide) rfl ?_
  intro p e s m args below meth c s₁ B hml hv
  obtain ⟨⟨rfl, hW, hK, hE⟩, hN⟩ := hv
  have hx := B.exec
  have hb := B.bytes
  have hr := B.returns
  have hts := atoms_spec (ws := wsL_rollBack) B.pre
  have hown : s.vm.findClass RL = some m.cls := findClass_of_methodNamed B.named
  have hlocks := B.notSynchronized
  have hRc : (headSpec wsL_rollBack RmH).room.cells = 5 := rfl
  have hRs : (headSpec wsL_rollBack RmH).room.slots = 1607 := rfl
  have hW : Wd D S0 ((ol, la cs f) :: XW cs a u sg Y) s.heap := hW
  have hS : va_S (SA S0) s.heap s.heap [] := va_S.rf
  have hl := lv_entry ([.ref (a 0), .ref ol]) (n := 3) (Nat.le_of_ble_eq_true rfl)
  rw [lg_entry_eq]
  generalize (lg_sl ([.ref (a 0), .ref ol]) ++ List.replicate (3 - (lg_sl ([.ref (a 0), .ref ol])).length) Slot.unset).toArray = ls at hl ⊢
  have hl : lv_has ls 3 [(0, .ref (a 0)), (1, .ref ol)] := hl
  refine lv_aload_n hx hb dL_rollBack_0 rfl (lv_at hl 1 rfl) ?_
  refine lv_iconst (v := nI 0) hx hb dL_rollBack_1 (by decide) ?_
  refine lv_aload_n hx hb dL_rollBack_2 rfl (lv_at hl 0 rfl) ?_
  have hW2 : Wd D S0 (XW cs a u sg ((ol, la cs f) :: Y)) s.heap := XW.push hW
  have hF2 : XF cs ea u sg ((ol, la cs f) :: Y) := hF.more (fun q9 h9 => List.mem_cons_of_mem _ h9)
  refine z_cmI (va_runV (As := []) (rest := [.int (nI 0), .ref ol]) ⟨hx, hb, hml, hown, hts⟩ hM (cwV 0 hts gL_rollBack_X2_rollBack rfl rfl rfl (by decide +kernel) ⟨Nat.le_of_ble_eq_true rfl, Nat.le_of_ble_eq_true rfl⟩) ⟨zE_blind, z_recv hK (hW2.1 0 _ rfl) rfl, zE_pre hW2 hK hE hS⟩ rfl rfl hl.1 rfl (lv_room (Nat.le_of_ble_eq_true rfl)) dL_rollBack_3 ⟨Nat.le_of_ble_eq_true rfl, Nat.le_of_ble_eq_true rfl⟩) hS (fun r v H locs hu hW hS => ?_)
  obtain ⟨hu1, hu2⟩ := hu
  rw [hu1]
  have hW := XW.pull hW
  have hF3 : XF cs ea v.1 τ (v.2 ++ Y) := hu2.sel (sel_drop (A := [(ol, la cs f)]) (fun q9 h9 => by rw [List.mem_singleton.mp h9]; exact okE_la))
  have hW : Wd D S0 ((ol, la cs f) :: XW cs a v.1 τ (v.2 ++ Y)) H := hW
  refine lv_i2l (v := R9.toInt64) hx hb dL_rollBack_6 rfl ?_
  refine z_last hx hb hK hW hS dL_rollBack_7 (fun H locs g9 hg9 hW hS => ?_)
  have hW : Wd D S0 ((ol, la cs g9) :: XW cs a v.1 τ (v.2 ++ Y)) H := hW
  refine lv_goto (tgt := 14) hx hb dL_rollBack_8 (by decide) ?_
  refine lv_iconst (v := nI 0) hx hb dL_rollBack_14 (by decide) ?_
  refine W.widen (k := 5) (n := 1607) (by omega) (by omega) ?_
  exact W.iret (v := nI 0) hx hb hr (fun t ht hW9 => ⟨⟨_, (v.1, v.2, g9), rfl, ⟨rfl, fun _ => hg9, hF3⟩, (by show Wd D S0 _ _; rw [ht]; exact hW)⟩, hS.F ht⟩) (fun q9 h9 => hS.2.2 q9 h9) dL_rollBack_15

set_option maxHeartbeats 4000000 in
set_option maxRecDepth 100000 in
theorem h_rollBack_IS (l : Launch) (D : va_G) (cs : Nat → ClassId) (S0 ea mi : Nat) (sa : Nat → Nat) (Y : va_W) (a : Nat → Nat) (u : XU) (sg : St) (hF : XF cs ea u sg Y) (ol : Nat) (f : Nat → Int64)  (R9 : Int64) (hM : vT l yX2_rollBack wsX2_rollBack RmT (zE [.ref (a 0)] (fun H => XH D cs a u sg H) D cs S0 ea mi sa) eIS) : hOK l D cs S0 ea mi sa Y a u sg ol f yL_rollBack wsL_rollBack [.ref (a 0), .ref ol] 1 R9 sg := by
  refine z_ofWH (cc := cL_rollBack) (maxL := 3) (ret := (some .int)) (hh := [(0, 8, 11, 15)]) (by decide) rfl ?_
  intro p e s m args below meth c s₁ B hml hv
  obtain ⟨⟨rfl, hW, hK, hE⟩, hN⟩ := hv
  have hx := B.exec
  have hb := B.bytes
  have hr := B.returns
  have hts := atoms_spec (ws := wsL_rollBack) B.pre
  have hown : s.vm.findClass RL = some m.cls := findClass_of_methodNamed B.named
  have hlocks := B.notSynchronized
  have htab : c.exceptionTable.toList = tableOf [(0, 8, 11, 15)] := vx_table (x := yL_rollBack) B (hts _ List.mem_cons_self)
  have hRc : (headSpec wsL_rollBack RmH).room.cells = 5 := rfl
  have hRs : (headSpec wsL_rollBack RmH).room.slots = 1607 := rfl
  have hW : Wd D S0 ((ol, la cs f) :: XW cs a u sg Y) s.heap := hW
  have hS : va_S (SA S0) s.heap s.heap [] := va_S.rf
  have hl := lv_entry ([.ref (a 0), .ref ol]) (n := 3) (Nat.le_of_ble_eq_true rfl)
  rw [lg_entry_eq]
  generalize (lg_sl ([.ref (a 0), .ref ol]) ++ List.replicate (3 - (lg_sl ([.ref (a 0), .ref ol])).length) Slot.unset).toArray = ls at hl ⊢
  have hl : lv_has ls 3 [(0, .ref (a 0)), (1, .ref ol)] := hl
  refine lv_aload_n hx hb dL_rollBack_0 rfl (lv_at hl 1 rfl) ?_
  refine lv_iconst (v := nI 0) hx hb dL_rollBack_1 (by decide) ?_
  refine lv_aload_n hx hb dL_rollBack_2 rfl (lv_at hl 0 rfl) ?_
  have hW2 : Wd D S0 (XW cs a u sg ((ol, la cs f) :: Y)) s.heap := XW.push hW
  have hF2 : XF cs ea u sg ((ol, la cs f) :: Y) := hF.more (fun q9 h9 => List.mem_cons_of_mem _ h9)
  have hPH2 := XH.of (D := D) hW2 hF2
  refine z_cat (vx_runV (As := []) (rest := [.int (nI 0), .ref ol]) ⟨hx, hb, hml, hown, hts⟩ hM (cwV 0 hts gL_rollBack_X2_rollBack rfl rfl rfl (by decide +kernel) ⟨Nat.le_of_ble_eq_true rfl, Nat.le_of_ble_eq_true rfl⟩) ⟨zE_blind, z_recv hK (hW2.1 0 _ rfl) rfl, zE_pre hPH2 hK hE va_S.rf⟩ rfl rfl hl.1 rfl (lv_room (Nat.le_of_ble_eq_true rfl)) dL_rollBack_3 ⟨Nat.le_of_ble_eq_true rfl, Nat.le_of_ble_eq_true rfl⟩) (fun H q8 ce hz9 hk9 hq1 hq2 hq3 => ?_)
  have hW : Wd D S0 ((ol, la cs f) :: XW cs a u sg Y) H := hW.kept hz9 hk9
  have hS : va_S (SA S0) s.heap H [] := ⟨hz9, fun q9 h9 _ => hk9 q9 h9, fun q9 h9 => absurd h9 List.not_mem_nil⟩
  refine vx_catch (name := eIS) hown [] ⟨0, 8, 11, 15⟩ [] htab (fun z9 h9 => absurd h9 List.not_mem_nil) (by decide) (by decide) (hts (.classLink RL 15 eIS) (by decide +kernel)) (va_Nw.use rfl (hE.2.2.2.2.1 (eIS, eIS) (by decide))) hq1 hq2 hq3 ?_
  refine lv_astore_n (lv' := [(2, .ref q8), (0, .ref (a 0)), (1, .ref ol)]) hx hb dL_rollBack_11 rfl hl (by decide) rfl (fun ls hl => ?_)
  refine lv_iconst (v := nI 1) hx hb dL_rollBack_12 (by decide) ?_
  refine W.widen (k := 5) (n := 1607) (by omega) (by omega) ?_
  exact W.iret (v := nI 1) hx hb hr (fun t ht hW9 => ⟨⟨_, (u, [], f), rfl, ⟨rfl, fun h9 => absurd h9 (by decide), hF⟩, (by show Wd D S0 _ _; rw [ht]; exact hW)⟩, hS.F ht⟩) (fun q9 h9 => hS.2.2 q9 h9) dL_rollBack_13

set_option maxHeartbeats 4000000 in
set_option maxRecDepth 100000 in
theorem h_isInstalled_ok (l : Launch) (D : va_G) (cs : Nat → ClassId) (S0 ea mi : Nat) (sa : Nat → Nat) (Y : va_W) (a : Nat → Nat) (u : XU) (sg : St) (hF : XF cs ea u sg Y) (ol : Nat) (f : Nat → Int64) (p0 : Int32) (cb : Bool) (τ : St) (hM : xOK l D cs S0 ea mi sa ((ol, la cs f) :: Y) a u sg yX2_isInstalled wsX2_isInstalled [.ref (a 0), .int p0] (bI cb) τ) : hOK l D cs S0 ea mi sa Y a u sg ol f yL_isInstalled wsL_isInstalled [.ref (a 0), .int p0, .ref ol] 0 (if cb = true then 1 else 0) τ := by
  refine z_ofWH (cc := cL_isInstalled) (maxL := 4) (ret := (some .int)) (hh := [(0, 16, 19, 25)]) (by decide) rfl ?_
  intro p e s m args below meth c s₁ B hml hv
  obtain ⟨⟨rfl, hW, hK, hE⟩, hN⟩ := hv
  have hx := B.exec
  have hb := B.bytes
  have hr := B.returns
  have hts := atoms_spec (ws := wsL_isInstalled) B.pre
  have hown : s.vm.findClass RL = some m.cls := findClass_of_methodNamed B.named
  have hlocks := B.notSynchronized
  have hRc : (headSpec wsL_isInstalled RmH).room.cells = 5 := rfl
  have hRs : (headSpec wsL_isInstalled RmH).room.slots = 1607 := rfl
  have hW : Wd D S0 ((ol, la cs f) :: XW cs a u sg Y) s.heap := hW
  have hS : va_S (SA S0) s.heap s.heap [] := va_S.rf
  have hl := lv_entry ([.ref (a 0), .int p0, .ref ol]) (n := 4) (Nat.le_of_ble_eq_true rfl)
  rw [lg_entry_eq]
  generalize (lg_sl ([.ref (a 0), .int p0, .ref ol]) ++ List.replicate (4 - (lg_sl ([.ref (a 0), .int p0, .ref ol])).length) Slot.unset).toArray = ls at hl ⊢
  have hl : lv_has ls 4 [(0, .ref (a 0)), (1, .int p0), (2, .ref ol)] := hl
  refine lv_aload_n hx hb dL_isInstalled_0 rfl (lv_at hl 2 rfl) ?_
  refine lv_iconst (v := nI 0) hx hb dL_isInstalled_1 (by decide) ?_
  refine lv_aload_n hx hb dL_isInstalled_2 rfl (lv_at hl 0 rfl) ?_
  refine lv_iload_n hx hb dL_isInstalled_3 rfl (lv_at hl 1 rfl) ?_
  have hW2 : Wd D S0 (XW cs a u sg ((ol, la cs f) :: Y)) s.heap := XW.push hW
  have hF2 : XF cs ea u sg ((ol, la cs f) :: Y) := hF.more (fun q9 h9 => List.mem_cons_of_mem _ h9)
  refine z_cmI (va_runV (As := [.int p0]) (rest := [.int (nI 0), .ref ol]) ⟨hx, hb, hml, hown, hts⟩ hM (cwV 1 hts gL_isInstalled_X2_isInstalled rfl rfl rfl (by decide +kernel) ⟨Nat.le_of_ble_eq_true rfl, Nat.le_of_ble_eq_true rfl⟩) ⟨zE_blind, z_recv hK (hW2.1 0 _ rfl) rfl, zE_pre hW2 hK hE hS⟩ rfl rfl hl.1 rfl (lv_room (Nat.le_of_ble_eq_true rfl)) dL_isInstalled_4 ⟨Nat.le_of_ble_eq_true rfl, Nat.le_of_ble_eq_true rfl⟩) hS (fun r v H locs hu hW hS => ?_)
  obtain ⟨hu1, hu2⟩ := hu
  rw [hu1]
  have hW := XW.pull hW
  have hF3 : XF cs ea v.1 τ (v.2 ++ Y) := hu2.sel (sel_drop (A := [(ol, la cs f)]) (fun q9 h9 => by rw [List.mem_singleton.mp h9]; exact okE_la))
  have hW : Wd D S0 ((ol, la cs f) :: XW cs a v.1 τ (v.2 ++ Y)) H := hW
  refine z_ifb_eq (tgt := 14) hx hb dL_isInstalled_7 (by decide) (fun hc7 => ?_) (fun hc7 => ?_)
  · skip
    have hc7 : cb = false := hc7
    have hcb := hc7
    refine lv_lconst (v := 0) hx hb dL_isInstalled_14 (by decide) ?_
    refine z_last hx hb hK hW hS dL_isInstalled_15 (fun H locs g9 hg9 hW hS => ?_)
    have hW : Wd D S0 ((ol, la cs g9) :: XW cs a v.1 τ (v.2 ++ Y)) H := hW
    refine lv_goto (tgt := 22) hx hb dL_isInstalled_16 (by decide) ?_
    refine lv_iconst (v := nI 0) hx hb dL_isInstalled_22 (by decide) ?_
    refine W.widen (k := 5) (n := 1607) (by omega) (by omega) ?_
    exact W.iret (v := nI 0) hx hb hr (fun t ht hW9 => ⟨⟨_, (v.1, v.2, g9), rfl, ⟨rfl, fun _ => hg9.trans (if_neg (show ¬ cb = true by rw [hcb]; decide)).symm, hF3⟩, (by show Wd D S0 _ _; rw [ht]; exact hW)⟩, hS.F ht⟩) (fun q9 h9 => hS.2.2 q9 h9) dL_isInstalled_23
  · skip
    have hc7 : cb = true := hc7
    have hcb := hc7
    refine lv_lconst (v := 1) hx hb dL_isInstalled_10 (by decide) ?_
    refine lv_goto (tgt := 15) hx hb dL_isInstalled_11 (by decide) ?_
    refine z_last hx hb hK hW hS dL_isInstalled_15 (fun H locs g9 hg9 hW hS => ?_)
    have hW : Wd D S0 ((ol, la cs g9) :: XW cs a v.1 τ (v.2 ++ Y)) H := hW
    refine lv_goto (tgt := 22) hx hb dL_isInstalled_16 (by decide) ?_
    refine lv_iconst (v := nI 0) hx hb dL_isInstalled_22 (by decide) ?_
    refine W.widen (k := 5) (n := 1607) (by omega) (by omega) ?_
    exact W.iret (v := nI 0) hx hb hr (fun t ht hW9 => ⟨⟨_, (v.1, v.2, g9), rfl, ⟨rfl, fun _ => hg9.trans (if_pos hcb).symm, hF3⟩, (by show Wd D S0 _ _; rw [ht]; exact hW)⟩, hS.F ht⟩) (fun q9 h9 => hS.2.2 q9 h9) dL_isInstalled_23

set_option maxHeartbeats 4000000 in
set_option maxRecDepth 100000 in
theorem h_isInstalled_IO (l : Launch) (D : va_G) (cs : Nat → ClassId) (S0 ea mi : Nat) (sa : Nat → Nat) (Y : va_W) (a : Nat → Nat) (u : XU) (sg : St) (hF : XF cs ea u sg Y) (ol : Nat) (f : Nat → Int64) (p0 : Int32) (R9 : Int64) (hM : vT l yX2_isInstalled wsX2_isInstalled RmT (zE [.ref (a 0), .int p0] (fun H => XH D cs a u sg H) D cs S0 ea mi sa) eIO) : hOK l D cs S0 ea mi sa Y a u sg ol f yL_isInstalled wsL_isInstalled [.ref (a 0), .int p0, .ref ol] 1 R9 sg := by
  refine z_ofWH (cc := cL_isInstalled) (maxL := 4) (ret := (some .int)) (hh := [(0, 16, 19, 25)]) (by decide) rfl ?_
  intro p e s m args below meth c s₁ B hml hv
  obtain ⟨⟨rfl, hW, hK, hE⟩, hN⟩ := hv
  have hx := B.exec
  have hb := B.bytes
  have hr := B.returns
  have hts := atoms_spec (ws := wsL_isInstalled) B.pre
  have hown : s.vm.findClass RL = some m.cls := findClass_of_methodNamed B.named
  have hlocks := B.notSynchronized
  have htab : c.exceptionTable.toList = tableOf [(0, 16, 19, 25)] := vx_table (x := yL_isInstalled) B (hts _ List.mem_cons_self)
  have hRc : (headSpec wsL_isInstalled RmH).room.cells = 5 := rfl
  have hRs : (headSpec wsL_isInstalled RmH).room.slots = 1607 := rfl
  have hW : Wd D S0 ((ol, la cs f) :: XW cs a u sg Y) s.heap := hW
  have hS : va_S (SA S0) s.heap s.heap [] := va_S.rf
  have hl := lv_entry ([.ref (a 0), .int p0, .ref ol]) (n := 4) (Nat.le_of_ble_eq_true rfl)
  rw [lg_entry_eq]
  generalize (lg_sl ([.ref (a 0), .int p0, .ref ol]) ++ List.replicate (4 - (lg_sl ([.ref (a 0), .int p0, .ref ol])).length) Slot.unset).toArray = ls at hl ⊢
  have hl : lv_has ls 4 [(0, .ref (a 0)), (1, .int p0), (2, .ref ol)] := hl
  refine lv_aload_n hx hb dL_isInstalled_0 rfl (lv_at hl 2 rfl) ?_
  refine lv_iconst (v := nI 0) hx hb dL_isInstalled_1 (by decide) ?_
  refine lv_aload_n hx hb dL_isInstalled_2 rfl (lv_at hl 0 rfl) ?_
  refine lv_iload_n hx hb dL_isInstalled_3 rfl (lv_at hl 1 rfl) ?_
  have hW2 : Wd D S0 (XW cs a u sg ((ol, la cs f) :: Y)) s.heap := XW.push hW
  have hF2 : XF cs ea u sg ((ol, la cs f) :: Y) := hF.more (fun q9 h9 => List.mem_cons_of_mem _ h9)
  have hPH2 := XH.of (D := D) hW2 hF2
  refine z_cat (vx_runV (As := [.int p0]) (rest := [.int (nI 0), .ref ol]) ⟨hx, hb, hml, hown, hts⟩ hM (cwV 1 hts gL_isInstalled_X2_isInstalled rfl rfl rfl (by decide +kernel) ⟨Nat.le_of_ble_eq_true rfl, Nat.le_of_ble_eq_true rfl⟩) ⟨zE_blind, z_recv hK (hW2.1 0 _ rfl) rfl, zE_pre hPH2 hK hE va_S.rf⟩ rfl rfl hl.1 rfl (lv_room (Nat.le_of_ble_eq_true rfl)) dL_isInstalled_4 ⟨Nat.le_of_ble_eq_true rfl, Nat.le_of_ble_eq_true rfl⟩) (fun H q8 ce hz9 hk9 hq1 hq2 hq3 => ?_)
  have hW : Wd D S0 ((ol, la cs f) :: XW cs a u sg Y) H := hW.kept hz9 hk9
  have hS : va_S (SA S0) s.heap H [] := ⟨hz9, fun q9 h9 _ => hk9 q9 h9, fun q9 h9 => absurd h9 List.not_mem_nil⟩
  refine vx_catch (name := eIO) hown [] ⟨0, 16, 19, 25⟩ [] htab (fun z9 h9 => absurd h9 List.not_mem_nil) (by decide) (by decide) (hts (.classLink RL 25 eIO) (by decide +kernel)) (va_Nw.use rfl (hE.2.2.2.2.1 (eIO, eIO) (by decide))) hq1 hq2 hq3 ?_
  refine lv_astore_n (lv' := [(3, .ref q8), (0, .ref (a 0)), (1, .int p0), (2, .ref ol)]) hx hb dL_isInstalled_19 rfl hl (by decide) rfl (fun ls hl => ?_)
  refine lv_iconst (v := nI 1) hx hb dL_isInstalled_20 (by decide) ?_
  refine W.widen (k := 5) (n := 1607) (by omega) (by omega) ?_
  exact W.iret (v := nI 1) hx hb hr (fun t ht hW9 => ⟨⟨_, (u, [], f), rfl, ⟨rfl, fun h9 => absurd h9 (by decide), hF⟩, (by show Wd D S0 _ _; rw [ht]; exact hW)⟩, hS.F ht⟩) (fun q9 h9 => hS.2.2 q9 h9) dL_isInstalled_21
