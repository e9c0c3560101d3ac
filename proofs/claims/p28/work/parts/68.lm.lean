/-! the law: its last loop, its second, its first -/
def LR (D : va_G) (cs : Nat → ClassId) (S0 ea : Nat) (a : Nat → Nat) (t : Nat) (H : Heap) : Prop := ∃ (σ : St) (u : XU) (Y : va_W), Wd D S0 (XW cs a u σ Y) H ∧ XF cs ea u σ Y ∧ σ.2.2.2.2.length = t ∧ vsN (σ.2.2.2.2 ++ [σ.2.2.2.1]) 0 = []
theorem roll_0 {hs : List BL} {x : BL} (h : 0 < hs.length) (h0 : vsN (hs ++ [x]) 0 = []) : vsN (hs.eraseIdx (hs.length - 1) ++ [vsN hs (hs.length - 1)]) 0 = [] := by
  rw [vsN_lo h] at h0
  have hl : (hs.eraseIdx (hs.length - 1)).length = hs.length - 1 := List.length_eraseIdx_of_lt (by omega)
  have e : vsN (hs.eraseIdx (hs.length - 1) ++ [vsN hs (hs.length - 1)]) (hs.eraseIdx (hs.length - 1)).length = vsN hs (hs.length - 1) := vsN_hi
  rw [hl] at e
  by_cases q : hs.length - 1 = 0
  · rw [q] at e ⊢
    exact e.trans h0
  · rw [vsN_lo (by rw [hl]; omega), vsN_er, if_pos (by omega)]
    exact h0
theorem z_dc1 (i : Nat) : nI i + Int32.ofInt (-1) = nI i - nI 1 := by
  have h := z_lfd i 0
  rw [pk_sub (Nat.zero_le i)] at h
  exact h

set_option maxHeartbeats 4000000 in
set_option maxRecDepth 100000 in
theorem law_r {p : Program} {l : Launch} {e : Env} {s : State} {m : MethodId} {below : List Frame} {meth : Method} {c : Code} {b9 L : Nat} {xs : Nat → Int32} (hL : L ≤ 260) (C0 : lw_At p s m meth c b9 L xs) {D : va_G} {cs : Nat → ClassId} {ea mi : Nat} {sa : Nat → Nat} {S0 : Nat} (hS0 : S0 = s.heap.size) (E0 : lw_E D cs ea mi sa s) {a : Nat → Nat} {cells slots : Nat} (hcl : cells ≤ 600130) (hsl : slots ≤ 7301080) {q9a : Nat} : ∀ (t9 : Nat) (H : Heap) (locs : List Loc) (ls : Array Slot), t9 ≤ 8 → LR D cs S0 ea a t9 H → va_S (SA S0) s.heap H locs → lv_has ls 22 [(0, .ref b9), (1, .ref (a 0)), (2, .ref q9a), (3, .int (nI t9 - nI 1))] → W p l e room_1 s m #[Value.ref b9] below meth c H locs cells slots (lw_Z below #[Value.ref b9] s) (F0 m 626 ls []) := by
  obtain ⟨hx, hb, hr, hml, hown, hts0, hX, hbl, hlocks, hgv⟩ := id C0
  obtain ⟨hK, hE9, hA9⟩ := id E0
  have hE : EV (SA S0) ea mi sa s s.heap := by rw [hS0]; exact hE9
  have hb0 := hb
  have hb : c.code = cL_law := hb
  have hown : s.vm.findClass RL = some m.cls := hown
  have hts : ∀ w ∈ wsL_law, w.before #[Value.ref b9] s = true := fun w h => hts0 w (wsL_law_in w h)
  have hRc : room_1.cells = 600130 := rfl
  have hRs : room_1.slots = 7301080 := rfl
  have hSS : S0 ≤ s.heap.size := Nat.le_of_eq hS0
  have hb9 : b9 < S0 := by omega
  intro t9
  induction t9 with
  | zero =>
    intro H locs ls h8 hI hS hl
    obtain ⟨σ, u, Y, hW, hF, hlen, h0⟩ := hI
    have hXH := XH.of hW hF
    have hi9 : σ.2.2.2.1 = [] := by
      rw [List.eq_nil_of_length_eq_zero hlen] at h0
      exact h0
    refine lv_iload_n hx hb dL_law_626 rfl (lv_at hl 3 rfl) ?_
    refine lv_if_lt (tgt := 646) hx hb dL_law_627 (by decide) (fun hc627 => ?_) (fun hc627 => ?_)
    · skip
      have hc627 : (nI 0 - nI 1) < 0 := hc627
      refine lv_aload_n hx hb dL_law_646 rfl (lv_at hl 1 rfl) ?_
      refine z_ceV (As := []) (rest := []) ⟨hx, hb, hml, hown, hts⟩ (c_X2_installedLength l D cs S0 ea mi sa a u σ) (cwV 0 hts gL_law_X2_installedLength rfl rfl rfl (by decide +kernel) ⟨Nat.le_of_ble_eq_true rfl, Nat.le_of_ble_eq_true rfl⟩) hXH.1 rfl hXH hK hE hS rfl hl.1 rfl (Nat.le_of_ble_eq_true rfl) dL_law_647 ⟨by rw [hRc]; omega, by rw [hRs]; omega⟩ (fun r hq9 => ?_)
      have hq9 : r = nI 0 := by rw [hq9, hi9]; rfl
      rw [hq9]
      refine lv_if_ne (tgt := 657) hx hb dL_law_650 (by decide) (fun h9 => absurd (by decide) h9) (fun _ => ?_)
      refine lv_iconst (v := nI 1) hx hb dL_law_653 (by decide) ?_
      refine lv_goto (tgt := 658) hx hb dL_law_654 (by decide) ?_
      refine zti (y := 1) rfl ?_
      have hS9 : va_S (SA s.heap.size) s.heap H locs := by rw [← hS0]; exact hS
      refine va_forget (fun q hq => hS9.2.2 q hq) ?_
      refine W.widen (k := 600130) (n := 7301080) (by omega) (by omega) ?_
      refine W.base ?_
      exact lw_ret (Drawn.sameBut.refl s.drawn lw_cs) hx hb0 hr hlocks dL_law_658
    · skip
      have hc627 : ¬ (nI 0 - nI 1) < 0 := hc627
      exact absurd (by decide) hc627
  | succ t9 ih =>
    intro H locs ls h8 hI hS hl
    obtain ⟨σ, u, Y, hW, hF, hlen, h0⟩ := hI
    have e9 : nI (t9 + 1) - nI 1 = nI t9 := pk_sub (by omega)
    rw [e9] at hl
    refine lv_iload_n hx hb dL_law_626 rfl (lv_at hl 3 rfl) ?_
    refine z_ifn_lt (tgt := 646) hx hb (by omega) dL_law_627 (by decide) ?_
    refine lv_aload_n hx hb dL_law_630 rfl (lv_at hl 1 rfl) ?_
    refine z_cmI (va_runV (As := []) (rest := []) ⟨hx, hb, hml, hown, hts⟩ (c_X2_rollBack l D cs S0 ea mi sa Y a u σ hF (by omega)) (cwV 0 hts gL_law_X2_rollBack rfl rfl rfl (by decide +kernel) ⟨Nat.le_of_ble_eq_true rfl, Nat.le_of_ble_eq_true rfl⟩) ⟨zE_blind, z_recv hK (hW.1 0 _ rfl) rfl, zE_pre hW hK hE hS⟩ rfl rfl hl.1 rfl (lv_room (Nat.le_of_ble_eq_true rfl)) dL_law_631 ⟨by rw [hRc]; omega, by rw [hRs]; omega⟩) hS (fun r v H locs hu hW hS => ?_)
    obtain ⟨hu1, hu2⟩ := hu
    rw [hu1]
    refine zti (y := nI t9) (by rw [hlen]; rfl) ?_
    refine lv_iload_n hx hb dL_law_634 rfl (lv_at hl 3 rfl) ?_
    refine z_icmp_eq (tgt := 640) hx hb (by omega) (by omega) dL_law_635 (by decide) (fun hc635 => ?_) (fun hc635 => ?_)
    · skip
      have hc635 : t9 = t9 := hc635
      refine lv_iinc (v := nI t9 - nI 1) (lv' := [(3, .int (nI t9 - nI 1)), (0, .ref b9), (1, .ref (a 0)), (2, .ref q9a)]) hx hb dL_law_640 hl (k := 3) rfl (z_dc1 t9) (by decide) rfl (fun ls hl => ?_)
      refine lv_goto (tgt := 626) hx hb dL_law_643 (by decide) ?_
      have hl9 : (σ.2.2.2.2.eraseIdx (σ.2.2.2.2.length - 1)).length = t9 := by rw [List.length_eraseIdx_of_lt (by omega)]; omega
      refine W.widen (k := cells) (n := slots) (Nat.le_refl _) (Nat.le_refl _) ?_
      exact ih H locs ls (by omega) ⟨_, v.1, v.2 ++ Y, hW, hu2, hl9, roll_0 (hs := σ.2.2.2.2) (by omega) h0⟩ hS (lv_sub hl [1, 2, 3, 0] rfl)
    · skip
      have hc635 : ¬ t9 = t9 := hc635
      exact absurd rfl hc635

set_option maxHeartbeats 4000000 in
set_option maxRecDepth 100000 in
theorem law_m {p : Program} {l : Launch} {e : Env} {s : State} {m : MethodId} {below : List Frame} {meth : Method} {c : Code} {b9 L : Nat} {xs : Nat → Int32} (hL : L ≤ 260) (C0 : lw_At p s m meth c b9 L xs) {D : va_G} {cs : Nat → ClassId} {ea mi : Nat} {sa : Nat → Nat} {S0 : Nat} (hS0 : S0 = s.heap.size) (E0 : lw_E D cs ea mi sa s) {a : Nat → Nat} {vs : List BL} (hlen : vs.length = 4) {q9a : Nat} : ∀ (n kz : Nat) (H : Heap) (locs : List Loc) (ls : Array Slot), 5 ≤ kz + n → kz ≤ 4 → LI D cs S0 ea a vs q9a kz H → va_S (SA S0) s.heap H locs → lv_has ls 22 [(0, .ref b9), (1, .ref (a 0)), (2, .ref q9a), (3, .int (nI kz))] → W p l e room_1 s m #[Value.ref b9] below meth c H locs (60 + 20 * kz) (9000 + 6000 * kz) (lw_Z below #[Value.ref b9] s) (F0 m 55 ls []) := by
  obtain ⟨hx, hb, hr, hml, hown, hts0, hX, hbl, hlocks, hgv⟩ := id C0
  obtain ⟨hK, hE9, hA9⟩ := id E0
  have hE : EV (SA S0) ea mi sa s s.heap := by rw [hS0]; exact hE9
  have hb0 := hb
  have hb : c.code = cL_law := hb
  have hown : s.vm.findClass RL = some m.cls := hown
  have hts : ∀ w ∈ wsL_law, w.before #[Value.ref b9] s = true := fun w h => hts0 w (wsL_law_in w h)
  have hRc : room_1.cells = 600130 := rfl
  have hRs : room_1.slots = 7301080 := rfl
  have hSS : S0 ≤ s.heap.size := Nat.le_of_eq hS0
  have hb9 : b9 < S0 := by omega
  intro n
  induction n with
  | zero =>
    intro kz H locs ls h1 h2
    omega
  | succ n ih =>
    intro kz H locs ls h1 h2 hI hS hl
    refine lv_iload_n hx hb dL_law_55 rfl (lv_at hl 3 rfl) ?_
    refine lv_iconst (v := nI 4) hx hb dL_law_56 (by decide) ?_
    refine z_icmp_ge (tgt := 623) hx hb (by omega) (by omega) dL_law_57 (by decide) (fun hc57 => ?_) (fun hc57 => ?_)
    · skip
      have hc57 : 4 ≤ kz := hc57
      have ek9 : kz = 4 := by omega
      subst ek9
      obtain ⟨σ, u, Y, hW, hF, -, -, -, hnh, hh0, -⟩ := hI
      refine lv_bipush (v := nI 7) hx hb dL_law_623 (by decide) ?_
      refine zti (y := nI 8 - nI 1) (by decide) ?_
      refine lv_istore_n (lv' := [(3, .int (nI 8 - nI 1)), (0, .ref b9), (1, .ref (a 0)), (2, .ref q9a)]) hx hb dL_law_625 rfl hl (by decide) rfl (fun ls hl => ?_)
      exact law_r hL C0 hS0 E0 (by omega) (by omega) 8 H locs ls (by omega) ⟨σ, u, Y, hW, hF, hnh, hh0⟩ hS (lv_sub hl [1, 2, 3, 0] rfl)
    · skip
      have hc57 : kz < 4 := hc57
      refine law_k hL C0 hS0 E0 (by omega) (by omega) (q9a := q9a) (kz := kz) (by omega) hlen hI hS (lv_sub hl [0, 1, 2, 3] rfl) (fun H locs ls hI hS hl => ?_)
      refine lv_iinc (v := nI (kz + 1)) (lv' := [(3, .int (nI (kz + 1))), (0, .ref b9), (1, .ref (a 0)), (2, .ref q9a)]) hx hb dL_law_617 hl (k := 3) rfl (z_inc _) (by decide) rfl (fun ls hl => ?_)
      refine lv_goto (tgt := 55) hx hb dL_law_620 (by decide) ?_
      refine W.widen (k := 60 + 20 * (kz + 1)) (n := 9000 + 6000 * (kz + 1)) (by omega) (by omega) ?_
      exact ih (kz + 1) H locs ls (by omega) (by omega) hI hS (lv_sub hl [1, 2, 3, 0] rfl)

def LF0 (D : va_G) (cs : Nat → ClassId) (S0 ea : Nat) (a : Nat → Nat) (q v : Nat) (H : Heap) : Prop := ∃ (σ : St) (u : XU) (Y : va_W) (fg : Nat → Option Nat), Wd D S0 ((q, qa cs 2 4 fg) :: XW cs a u σ Y) H ∧ XF cs ea u σ Y ∧ σ.1 = [] ∧ σ.2.1.length = v ∧ σ.2.2 = ([], [], []) ∧ ∀ i, i < v → ∃ r, fg i = some r ∧ (r, ba cs (vsN σ.2.1 i)) ∈ Y

set_option maxHeartbeats 4000000 in
set_option maxRecDepth 100000 in
theorem law_f {p : Program} {l : Launch} {e : Env} {s : State} {m : MethodId} {below : List Frame} {meth : Method} {c : Code} {b9 L : Nat} {xs : Nat → Int32} (hL : L ≤ 260) (C0 : lw_At p s m meth c b9 L xs) {D : va_G} {cs : Nat → ClassId} {ea mi : Nat} {sa : Nat → Nat} {S0 : Nat} (hS0 : S0 = s.heap.size) (E0 : lw_E D cs ea mi sa s) {a : Nat → Nat} {q9a : Nat} : ∀ (n kz : Nat) (H : Heap) (locs : List Loc) (ls : Array Slot), 5 ≤ kz + n → kz ≤ 4 → LF0 D cs S0 ea a q9a kz H → va_S (SA S0) s.heap H locs → lv_has ls 22 [(0, .ref b9), (1, .ref (a 0)), (2, .ref q9a), (3, .int (nI kz))] → W p l e room_1 s m #[Value.ref b9] below meth c H locs (20 + 5 * kz) (2000 + 1000 * kz) (lw_Z below #[Value.ref b9] s) (F0 m 15 ls []) := by
  obtain ⟨hx, hb, hr, hml, hown, hts0, hX, hbl, hlocks, hgv⟩ := id C0
  obtain ⟨hK, hE9, hA9⟩ := id E0
  have hE : EV (SA S0) ea mi sa s s.heap := by rw [hS0]; exact hE9
  have hb0 := hb
  have hb : c.code = cL_law := hb
  have hown : s.vm.findClass RL = some m.cls := hown
  have hts : ∀ w ∈ wsL_law, w.before #[Value.ref b9] s = true := fun w h => hts0 w (wsL_law_in w h)
  have hRc : room_1.cells = 600130 := rfl
  have hRs : room_1.slots = 7301080 := rfl
  have hSS : S0 ≤ s.heap.size := Nat.le_of_eq hS0
  have hb9 : b9 < S0 := by omega
  intro n
  induction n with
  | zero =>
    intro kz H locs ls h1 h2
    omega
  | succ n ih =>
    intro kz H locs ls h1 h2 hI hS hl
    obtain ⟨⟨b1, s2⟩, u, Y, fg, hW, hF, hb1, hlen, hrest, hrow⟩ := hI
    have hb1 : b1 = [] := hb1
    subst hb1
    have hlen : s2.1.length = kz := hlen
    have hrest : s2.2 = ([], [], []) := hrest
    refine lv_iload_n hx hb dL_law_15 rfl (lv_at hl 3 rfl) ?_
    refine lv_iconst (v := nI 4) hx hb dL_law_16 (by decide) ?_
    refine z_icmp_ge (tgt := 53) hx hb (by omega) (by omega) dL_law_17 (by decide) (fun hc17 => ?_) (fun hc17 => ?_)
    · skip
      have hc17 : 4 ≤ kz := hc17
      refine lv_iconst (v := nI 0) hx hb dL_law_53 (by decide) ?_
      refine lv_istore_n (lv' := [(3, .int (nI 0)), (0, .ref b9), (1, .ref (a 0)), (2, .ref q9a)]) hx hb dL_law_54 rfl hl (by decide) rfl (fun ls hl => ?_)
      have ek9 : kz = 4 := by omega
      refine W.widen (k := 60 + 20 * 0) (n := 9000 + 6000 * 0) (by omega) (by omega) ?_
      have hr1 : s2.2.1 = [] := congrArg Prod.fst hrest
      have hr2 : s2.2.2.1 = [] := congrArg (fun z : List Pt × BL × List BL => z.2.1) hrest
      have hr3 : s2.2.2.2 = [] := congrArg (fun z : List Pt × BL × List BL => z.2.2) hrest
      exact law_m hL C0 hS0 E0 (vs := s2.1) (hlen.trans ek9) (q9a := q9a) 5 0 H locs ls (by omega) (by omega) ⟨(([], s2) : St), u, (q9a, qa cs 2 4 fg) :: Y, XW.push hW, hF.more (fun q9 h9 => List.mem_cons_of_mem _ h9), rfl, rfl, by show s2.2.1.length = _; rw [hr1]; rfl, by show s2.2.2.2.length = _; rw [hr3]; rfl, by show vsN (s2.2.2.2 ++ [s2.2.2.1]) 0 = []; rw [hr3, hr2]; rfl, fg, List.mem_cons_self, fun i hi => by
        obtain ⟨r9, h9, h8⟩ := hrow i (by omega)
        exact ⟨r9, h9, List.mem_cons_of_mem _ h8⟩⟩ hS (lv_sub hl [1, 2, 3, 0] rfl)
    · skip
      have hc17 : kz < 4 := hc17
      refine lv_aload_n hx hb dL_law_20 rfl (lv_at hl 2 rfl) ?_
      refine lv_iload_n hx hb dL_law_21 rfl (lv_at hl 3 rfl) ?_
      refine lv_aload_n hx hb dL_law_22 rfl (lv_at hl 0 rfl) ?_
      refine lv_iconst (v := nI 2) hx hb dL_law_23 (by decide) ?_
      refine lv_iload_n hx hb dL_law_24 rfl (lv_at hl 3 rfl) ?_
      refine lv_imul hx hb dL_law_25 ?_
      refine zti (pk_mul _ _) (y := nI (2 * kz)) ?_
      refine lv_bipush (v := nI 70) hx hb dL_law_26 (by decide) ?_
      refine z_cmR (va_runS (As := [.ref b9, .int (nI (2 * kz)), .int (nI 70)]) (rest := [.int (nI kz), .ref q9a]) ⟨hx, hb, hml, hown, hts⟩ (c_L_row l D cs S0 ((q9a, qa cs 2 4 fg) :: XW cs a u (([], s2) : St) Y) b9 L xs hb9 hL (2 * kz) (by omega)) (va_cwS 3 hts gL_law_L_row rfl rfl rfl (by decide +kernel) ⟨Nat.le_of_ble_eq_true rfl, Nat.le_of_ble_eq_true rfl⟩) ⟨zX_blind, zX_pre hW hK (hX.kept (hS.2.1 b9 hX.lt (Nat.not_le.mpr hb9)))⟩ rfl rfl hl.1 rfl (lv_room (Nat.le_of_ble_eq_true rfl)) dL_law_28 ⟨by rw [hRc]; omega, by rw [hRs]; omega⟩) hS (fun ys ra H locs hu hW hu9 hS => ?_)
      obtain ⟨hy70, hys⟩ := hu
      have hW : Wd D S0 ((ra, fa cs ys.length (fun i => nI ((bv ys) i))) :: (q9a, qa cs 2 4 fg) :: XW cs a u (([], s2) : St) Y) H := hW
      refine z_astA (k := kz) (v := ra) (n := 4) (n1 := ys.length) (g := bb ys) (f := fg) hx hb hA9 hK hW hS 1 rfl List.mem_cons_self (by omega) (by omega) dL_law_31 (fun H locs hW hS => ?_)
      have hW : Wd D S0 ((ra, fa cs ys.length (fun i => nI ((bv ys) i))) :: (q9a, qa cs 2 4 (va_up fg kz (some ra))) :: XW cs a u (([], s2) : St) Y) H := hW
      refine lv_aload_n hx hb dL_law_32 rfl (lv_at hl 1 rfl) ?_
      refine lv_aload_n hx hb dL_law_33 rfl (lv_at hl 2 rfl) ?_
      refine lv_iload_n hx hb dL_law_34 rfl (lv_at hl 3 rfl) ?_
      refine z_aald (k := kz) (y := ra) (t0 := 2) hx hb hK (hW.1 1 _ rfl) rfl rfl (by omega) (by omega) (va_up_self _ _ _) dL_law_35 ?_
      refine lv_bipush (v := nI 7) hx hb dL_law_36 (by decide) ?_
      have hW : Wd D S0 (XW cs a u (([], s2) : St) (([(ra, ba cs ys), (q9a, qa cs 2 4 (va_up fg kz (some ra)))] : va_W) ++ Y)) H := XW.grow (G := ([(ra, ba cs ys), (q9a, qa cs 2 4 (va_up fg kz (some ra)))] : va_W)) hW
      have hF2 : XF cs ea u (([], s2) : St) (([(ra, ba cs ys), (q9a, qa cs 2 4 (va_up fg kz (some ra)))] : va_W) ++ Y) := hF.more (fun q9 h9 => List.mem_append_right _ h9)
      refine z_cmI (va_runS (As := [.ref (a 0), .ref ra, .int (nI 7)]) (rest := []) ⟨hx, hb, hml, hown, hts⟩ (c_L_store l D cs S0 ea mi sa (([(ra, ba cs ys), (q9a, qa cs 2 4 (va_up fg kz (some ra)))] : va_W) ++ Y) a u (([], s2) : St) hF2 ra ys List.mem_cons_self hys hy70 (by show s2.1.length < 12; omega)) (va_cwS 3 hts gL_law_L_store rfl rfl rfl (by decide +kernel) ⟨Nat.le_of_ble_eq_true rfl, Nat.le_of_ble_eq_true rfl⟩) ⟨zE_blind, zE_pre hW hK hE hS⟩ rfl rfl hl.1 rfl (lv_room (Nat.le_of_ble_eq_true rfl)) dL_law_38 ⟨by rw [hRc]; omega, by rw [hRs]; omega⟩) hS (fun r v H locs hu hW hS => ?_)
      obtain ⟨hu1, hu2⟩ := hu
      rw [hu1]
      refine zti (y := nI kz) (by show nI s2.1.length = _; rw [hlen]) ?_
      refine lv_iload_n hx hb dL_law_41 rfl (lv_at hl 3 rfl) ?_
      refine z_icmp_eq (tgt := 47) hx hb (by omega) (by omega) dL_law_42 (by decide) (fun hc42 => ?_) (fun hc42 => ?_)
      · skip
        have hc42 : kz = kz := hc42
        refine lv_iinc (v := nI (kz + 1)) (lv' := [(3, .int (nI (kz + 1))), (0, .ref b9), (1, .ref (a 0)), (2, .ref q9a)]) hx hb dL_law_47 hl (k := 3) rfl (z_inc _) (by decide) rfl (fun ls hl => ?_)
        refine lv_goto (tgt := 15) hx hb dL_law_50 (by decide) ?_
        have hW2 : Wd D S0 ((q9a, qa cs 2 4 (va_up fg kz (some ra))) :: XW cs a v.1 (([], (s2.1 ++ [ys], s2.2)) : St) ((v.2 ++ [(ra, ba cs ys)]) ++ Y)) H := XW.pull (G := v.2 ++ [(ra, ba cs ys)]) (by rw [List.append_assoc]; exact hW)
        have hF3 : XF cs ea v.1 (([], (s2.1 ++ [ys], s2.2)) : St) ((v.2 ++ [(ra, ba cs ys)]) ++ ([(q9a, qa cs 2 4 (va_up fg kz (some ra)))] ++ Y)) := by rw [List.append_assoc]; exact hu2
        have hF4 : XF cs ea v.1 (([], (s2.1 ++ [ys], s2.2)) : St) ((v.2 ++ [(ra, ba cs ys)]) ++ Y) := hF3.sel (sel_drop (fun p9 h9 => by rw [List.mem_singleton.mp h9]; exact okE_qa))
        refine W.widen (k := 20 + 5 * (kz + 1)) (n := 2000 + 1000 * (kz + 1)) (by omega) (by omega) ?_
        refine ih (kz + 1) H locs ls (by omega) (by omega) ⟨_, v.1, _, _, hW2, hF4, rfl, ?_, hrest, fun i hi => ?_⟩ hS (lv_sub hl [1, 2, 3, 0] rfl)
        · show (s2.1 ++ [ys]).length = kz + 1
          rw [List.length_append, hlen]; rfl
        · by_cases q : i = kz
          · exact ⟨ra, by rw [q]; exact va_up_self _ _ _, by rw [q, show vsN (s2.1 ++ [ys]) kz = ys from by rw [← hlen]; exact vsN_hi]; exact List.mem_append_left _ (List.mem_append_right _ List.mem_cons_self)⟩
          · obtain ⟨r9, h9, h8⟩ := hrow i (by omega)
            exact ⟨r9, by rw [va_up_ne _ _ q]; exact h9, by rw [show vsN (s2.1 ++ [ys]) i = vsN s2.1 i from vsN_lo (by omega)]; exact List.mem_append_right _ h8⟩
      · skip
        have hc42 : ¬ kz = kz := hc42
        exact absurd rfl hc42
