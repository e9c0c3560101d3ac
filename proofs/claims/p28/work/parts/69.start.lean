/-! the law from its entry -/
set_option maxHeartbeats 4000000 in
set_option maxRecDepth 100000 in
/-- the law, from its entry -/
theorem whole_start {p : Program} {e : Env} {s : State} {m : MethodId} {below : List Frame} {meth : Method} {c : Code} (l : Launch) (hflags : l.flags = flags0) {b L : Nat} {xs : Nat → Int32} (hL : L ≤ 260) (C0 : lw_At p s m meth c b L xs) : W p l e room_1 s m #[Value.ref b] below meth c s.heap [] 0 0 (lw_Z below #[Value.ref b] s) (entryFrame m ([Value.ref b] : List Value).toArray 22) := by
  obtain ⟨D, cs, ea, mi, sa, E0⟩ := lw_env C0
  obtain ⟨S0, hS0⟩ : ∃ z, z = s.heap.size := ⟨_, rfl⟩
  obtain ⟨hx, hb, hr, hml, hown, hts0, hX, hbl, hlocks, hgv⟩ := id C0
  obtain ⟨hK, hE9, hA9⟩ := id E0
  have hE : EV (SA S0) ea mi sa s s.heap := by rw [hS0]; exact hE9
  have hb0 := hb
  have hb : c.code = cL_law := hb
  have hown : s.vm.findClass RL = some m.cls := hown
  have hts : ∀ w ∈ wsL_law, w.before #[Value.ref b] s = true := fun w h => hts0 w (wsL_law_in w h)
  have hRc : room_1.cells = 600130 := rfl
  have hRs : room_1.slots = 7301080 := rfl
  have hSS : S0 ≤ s.heap.size := Nat.le_of_eq hS0
  have hS : va_S (SA S0) s.heap s.heap [] := va_S.rf
  have hW : Wd D S0 [] s.heap := ⟨fun k q h => by simp at h, ⟨fun i j p q h => by simp at h, fun k q h => by simp at h⟩, hSS⟩
  have hl := lv_entry ([.ref b]) (n := 22) (Nat.le_of_ble_eq_true rfl)
  rw [lg_entry_eq]
  generalize (lg_sl ([.ref b]) ++ List.replicate (22 - (lg_sl ([.ref b])).length) Slot.unset).toArray = ls at hl ⊢
  have hl : lv_has ls 22 [(0, .ref b)] := hl
  refine z_new (ci := 3) (fs := [.null, .int 0, .null, .null, .null, .null, .null, .null]) (C := RX2) (T := TX2) (N := 8) hx hb hts0 inX2 tyX2 tyX2_ok hown (hts (.classLink RL 27 RX2) (by decide +kernel)) (hts0 (.instantiable RX2 8) (by decide +kernel)) (hts0 (.initialized RX2) (by decide +kernel)) hK hW hS hSS rfl (fun j hj => by rcases (show j = 0 ∨ j = 1 ∨ j = 2 ∨ j = 3 ∨ j = 4 ∨ j = 5 ∨ j = 6 ∨ j = 7 by omega) with rfl | rfl | rfl | rfl | rfl | rfl | rfl | rfl <;> rfl) (by rw [hRc]; omega) (by rw [hRs]; omega) dL_law_0 (fun q0 H hW hS => ?_)
  refine lv_dup hx hb dL_law_3 rfl ?_
  refine z_cmV (va_runI (As := []) (rest := [.ref q0]) ⟨hx, hb, hml, hown, hts⟩ (c_X2_init l D cs S0 ea mi sa [] q0) (cwI 0 hts gL_law_X2_init rfl rfl rfl (hts (.initialized RX2) (by decide +kernel)) (hts (.methodLink RL 71 yX2_init) (by decide +kernel)) (hts (.instanceMethod yX2_init) (by decide +kernel)) rfl (by decide +kernel) ⟨Nat.le_of_ble_eq_true rfl, Nat.le_of_ble_eq_true rfl⟩) ⟨zE_blind, (zE_pre hW hK hE hS)⟩ rfl rfl hl.1 rfl (lv_room (Nat.le_of_ble_eq_true rfl)) dL_law_4 ⟨by rw [hRc]; omega, by rw [hRs]; omega⟩) hS (fun v H locs hu hW2 hS => ?_)
  obtain ⟨hu1, hXF⟩ := hu
  subst hu1
  have hW := hW2
  refine lv_astore_n (lv' := [(1, .ref (v.1 0)), (0, .ref b)]) hx hb dL_law_7 rfl hl (by decide) rfl (fun ls hl => ?_)
  refine lv_iconst (v := nI 4) hx hb dL_law_8 (by decide) ?_
  refine W.widen (k := 12) (n := 1200) (by omega) (by omega) ?_
  refine z_newA (n := 4) (cells := 12) (slots := 1200) hx hb hown (hts (.classLink RL 72 "[I") (by decide +kernel)) (hts0 (.arrayOver (.array .int)) (by decide +kernel)) hK hW hS hSS (by decide) (by rw [hRc]; omega) (by rw [hRs]; omega) dL_law_9 (fun q9a H hW hS => ?_)
  refine lv_astore_n (lv' := [(2, .ref q9a), (1, .ref (v.1 0)), (0, .ref b)]) hx hb dL_law_12 rfl hl (by decide) rfl (fun ls hl => ?_)
  refine lv_iconst (v := nI 0) hx hb dL_law_13 (by decide) ?_
  refine lv_istore_n (lv' := [(3, .int (nI 0)), (2, .ref q9a), (1, .ref (v.1 0)), (0, .ref b)]) hx hb dL_law_14 rfl hl (by decide) rfl (fun ls hl => ?_)
  refine W.widen (k := 20 + 5 * 0) (n := 2000 + 1000 * 0) (by omega) (by omega) ?_
  exact law_f hL C0 hS0 E0 (a := v.1) (q9a := q9a) 5 0 H locs ls (by omega) (by omega) ⟨st0, v.2.1, v.2.2 ++ [], _, hW, hXF, rfl, rfl, rfl, fun i hi => absurd hi (Nat.not_lt_zero i)⟩ hS (lv_sub hl [3, 2, 1, 0] rfl)
