/-! the law's loop -/
set_option maxHeartbeats 4000000 in
set_option maxRecDepth 100000 in
theorem law_sw {p : Program} {l : Launch} {e : Env} {s : State} {m : MethodId} {below : List Frame} {meth : Method} {c : Code} {b9 L : Nat} {xs : Nat → Int32} (hfl : l.stackTraces = false) (hL : L ≤ 2048) (C0 : lw_At p s m meth c b9 L xs) {D : va_G} {cs : Nat → ClassId} {ea mi : Nat} {sa : Nat → Nat} (E0 : lw_E D cs ea mi sa s) {a b : Nat → Nat} {ol od : Nat} {j cells slots : Nat} {H : Heap} {locs : List Loc} {ls : Array Slot} (hj : 4 * j + 4 ≤ L) (hcl : cells + 6 ≤ 601024) (hsl : slots + 2007 ≤ 7293034) (hI : lw_I D cs s.heap.size ea a b ol od H) (hS : va_S (SA s.heap.size) s.heap H locs) (hl : lv_has ls 9 [(0, .ref b9), (1, .ref (a 0)), (2, .ref (b 0)), (3, .ref ol), (4, .ref od), (5, .int (nI (4 * j)))])
    (kk : ∀ (H : Heap) (locs : List Loc) (ls : Array Slot), lw_I D cs s.heap.size ea a b ol od H → va_S (SA s.heap.size) s.heap H locs → lv_has ls 9 [(0, .ref b9), (1, .ref (a 0)), (2, .ref (b 0)), (3, .ref ol), (4, .ref od), (5, .int (nI (4 * j)))] → W p l e room_1 s m #[Value.ref b9] below meth c H locs (cells + 6) (slots + 2007) (lw_Z below #[Value.ref b9] s) (F0 m 1612 ls [])) (v : Int32) : W p l e room_1 s m #[Value.ref b9] below meth c H locs cells slots (lw_Z below #[Value.ref b9] s) (F0 m 44 ls [.int v]) := by
  have hx := C0.1
  have hb : c.code = cL_law := C0.2.1
  by_cases hv : v.toInt < 0 ∨ 24 < v.toInt
  · refine lv_tableOut (tgt := 1612) hx hb dL_law_44 hv (by decide) ?_
    refine W.widen (k := cells + 6) (n := slots + 2007) (by omega) (by omega) ?_
    exact kk H locs ls hI hS hl
  · have h9 : v.toInt = 0 ∨ v.toInt = 1 ∨ v.toInt = 2 ∨ v.toInt = 3 ∨ v.toInt = 4 ∨ v.toInt = 5 ∨ v.toInt = 6 ∨ v.toInt = 7 ∨ v.toInt = 8 ∨ v.toInt = 9 ∨ v.toInt = 10 ∨ v.toInt = 11 ∨ v.toInt = 12 ∨ v.toInt = 13 ∨ v.toInt = 14 ∨ v.toInt = 15 ∨ v.toInt = 16 ∨ v.toInt = 17 ∨ v.toInt = 18 ∨ v.toInt = 19 ∨ v.toInt = 20 ∨ v.toInt = 21 ∨ v.toInt = 22 ∨ v.toInt = 23 ∨ v.toInt = 24 := by omega
    rcases h9 with h9 | h9 | h9 | h9 | h9 | h9 | h9 | h9 | h9 | h9 | h9 | h9 | h9 | h9 | h9 | h9 | h9 | h9 | h9 | h9 | h9 | h9 | h9 | h9 | h9
    · exact lv_tableIn (off := 116) (tgt := 160) hx hb dL_law_44 (by omega) (by omega) (by rw [h9]; rfl) (by decide) (law_0 hfl hL C0 E0 hj hcl hsl hI hS hl kk)
    · exact lv_tableIn (off := 216) (tgt := 260) hx hb dL_law_44 (by omega) (by omega) (by rw [h9]; rfl) (by decide) (law_1 hfl hL C0 E0 hj hcl hsl hI hS hl kk)
    · exact lv_tableIn (off := 260) (tgt := 304) hx hb dL_law_44 (by omega) (by omega) (by rw [h9]; rfl) (by decide) (law_2 hfl hL C0 E0 hj hcl hsl hI hS hl kk)
    · exact lv_tableIn (off := 273) (tgt := 317) hx hb dL_law_44 (by omega) (by omega) (by rw [h9]; rfl) (by decide) (law_3 hfl hL C0 E0 hj hcl hsl hI hS hl kk)
    · exact lv_tableIn (off := 329) (tgt := 373) hx hb dL_law_44 (by omega) (by omega) (by rw [h9]; rfl) (by decide) (law_4 hfl hL C0 E0 hj hcl hsl hI hS hl kk)
    · exact lv_tableIn (off := 397) (tgt := 441) hx hb dL_law_44 (by omega) (by omega) (by rw [h9]; rfl) (by decide) (law_5 hfl hL C0 E0 hj hcl hsl hI hS hl kk)
    · exact lv_tableIn (off := 472) (tgt := 516) hx hb dL_law_44 (by omega) (by omega) (by rw [h9]; rfl) (by decide) (law_6 hfl hL C0 E0 hj hcl hsl hI hS hl kk)
    · exact lv_tableIn (off := 552) (tgt := 596) hx hb dL_law_44 (by omega) (by omega) (by rw [h9]; rfl) (by decide) (law_7 hfl hL C0 E0 hj hcl hsl hI hS hl kk)
    · exact lv_tableIn (off := 620) (tgt := 664) hx hb dL_law_44 (by omega) (by omega) (by rw [h9]; rfl) (by decide) (law_8 hfl hL C0 E0 hj hcl hsl hI hS hl kk)
    · exact lv_tableIn (off := 688) (tgt := 732) hx hb dL_law_44 (by omega) (by omega) (by rw [h9]; rfl) (by decide) (law_9 hfl hL C0 E0 hj hcl hsl hI hS hl kk)
    · exact lv_tableIn (off := 768) (tgt := 812) hx hb dL_law_44 (by omega) (by omega) (by rw [h9]; rfl) (by decide) (law_10 hfl hL C0 E0 hj hcl hsl hI hS hl kk)
    · exact lv_tableIn (off := 836) (tgt := 880) hx hb dL_law_44 (by omega) (by omega) (by rw [h9]; rfl) (by decide) (law_11 hfl hL C0 E0 hj hcl hsl hI hS hl kk)
    · exact lv_tableIn (off := 849) (tgt := 893) hx hb dL_law_44 (by omega) (by omega) (by rw [h9]; rfl) (by decide) (law_12 hfl hL C0 E0 hj hcl hsl hI hS hl kk)
    · exact lv_tableIn (off := 905) (tgt := 949) hx hb dL_law_44 (by omega) (by omega) (by rw [h9]; rfl) (by decide) (law_13 hfl hL C0 E0 hj hcl hsl hI hS hl kk)
    · exact lv_tableIn (off := 985) (tgt := 1029) hx hb dL_law_44 (by omega) (by omega) (by rw [h9]; rfl) (by decide) (law_14 hfl hL C0 E0 hj hcl hsl hI hS hl kk)
    · exact lv_tableIn (off := 1041) (tgt := 1085) hx hb dL_law_44 (by omega) (by omega) (by rw [h9]; rfl) (by decide) (law_15 hfl hL C0 E0 hj hcl hsl hI hS hl kk)
    · exact lv_tableIn (off := 1118) (tgt := 1162) hx hb dL_law_44 (by omega) (by omega) (by rw [h9]; rfl) (by decide) (law_16 hfl hL C0 E0 hj hcl hsl hI hS hl kk)
    · exact lv_tableIn (off := 1186) (tgt := 1230) hx hb dL_law_44 (by omega) (by omega) (by rw [h9]; rfl) (by decide) (law_17 hfl hL C0 E0 hj hcl hsl hI hS hl kk)
    · exact lv_tableIn (off := 1254) (tgt := 1298) hx hb dL_law_44 (by omega) (by omega) (by rw [h9]; rfl) (by decide) (law_18 hfl hL C0 E0 hj hcl hsl hI hS hl kk)
    · exact lv_tableIn (off := 1322) (tgt := 1366) hx hb dL_law_44 (by omega) (by omega) (by rw [h9]; rfl) (by decide) (law_19 hfl hL C0 E0 hj hcl hsl hI hS hl kk)
    · exact lv_tableIn (off := 1378) (tgt := 1422) hx hb dL_law_44 (by omega) (by omega) (by rw [h9]; rfl) (by decide) (law_20 hfl hL C0 E0 hj hcl hsl hI hS hl kk)
    · exact lv_tableIn (off := 1434) (tgt := 1478) hx hb dL_law_44 (by omega) (by omega) (by rw [h9]; rfl) (by decide) (law_21 hfl hL C0 E0 hj hcl hsl hI hS hl kk)
    · exact lv_tableIn (off := 1478) (tgt := 1522) hx hb dL_law_44 (by omega) (by omega) (by rw [h9]; rfl) (by decide) (law_22 hfl hL C0 E0 hj hcl hsl hI hS hl kk)
    · exact lv_tableIn (off := 1541) (tgt := 1585) hx hb dL_law_44 (by omega) (by omega) (by rw [h9]; rfl) (by decide) (law_23 hfl hL C0 E0 hj hcl hsl hI hS hl kk)
    · exact lv_tableIn (off := 1554) (tgt := 1598) hx hb dL_law_44 (by omega) (by omega) (by rw [h9]; rfl) (by decide) (law_24 hfl hL C0 E0 hj hcl hsl hI hS hl kk)

theorem z_i4 (j : Nat) : nI (4 * j) + Int32.ofInt 4 = nI (4 * (j + 1)) := by
  rw [show Int32.ofInt 4 = nI 4 by decide, nI_add]
  exact congrArg nI (by omega)
set_option maxHeartbeats 4000000 in
set_option maxRecDepth 100000 in
theorem law_loop {p : Program} {l : Launch} {e : Env} {s : State} {m : MethodId} {below : List Frame} {meth : Method} {c : Code} {b9 L : Nat} {xs : Nat → Int32} (hfl : l.stackTraces = false) (hL : L ≤ 2048) (C0 : lw_At p s m meth c b9 L xs) {D : va_G} {cs : Nat → ClassId} {ea mi : Nat} {sa : Nat → Nat} (E0 : lw_E D cs ea mi sa s) {a b : Nat → Nat} {ol od : Nat} : ∀ (n j : Nat) (H : Heap) (locs : List Loc) (ls : Array Slot), L + 4 ≤ 4 * j + 4 * n → 4 * j ≤ L → lw_I D cs s.heap.size ea a b ol od H → va_S (SA s.heap.size) s.heap H locs → lv_has ls 9 [(0, .ref b9), (1, .ref (a 0)), (2, .ref (b 0)), (3, .ref ol), (4, .ref od), (5, .int (nI (4 * j)))] → W p l e room_1 s m #[Value.ref b9] below meth c H locs (40 + 6 * j) (3000 + 2007 * j) (lw_Z below #[Value.ref b9] s) (F0 m 28 ls []) := by
  obtain ⟨hx, hb, hr, hml, hown, hts0, hX, hbl, hlocks, hgv⟩ := id C0
  have hb' := hb
  have hb : c.code = cL_law := hb
  intro n
  induction n with
  | zero => intro j H locs ls h1 h2; omega
  | succ n ih =>
    intro j H locs ls h1 h2 hI hS hl
    refine lv_iload hx hb dL_law_28 (lv_at hl 5 rfl) ?_
    refine lv_aload_n hx hb dL_law_30 rfl (lv_at hl 0 rfl) ?_
    refine z_slen hx hb hX hbl hS dL_law_31 ?_
    refine lv_iconst (v := nI 4) hx hb dL_law_32 (by decide) ?_
    refine lv_isub hx hb dL_law_33 ?_
    refine lv_icmp_gt (tgt := 1618) hx hb dL_law_34 (by decide) (fun hc => ?_) (fun hc => ?_)
    · refine lv_iconst (v := 1) hx hb dL_law_1618 (by decide) ?_
      refine va_forget (fun q hq => hS.2.2 q hq) ?_
      refine W.widen (k := 601024) (n := 7293034) (by omega) (by omega) ?_
      refine W.base ?_
      exact lw_ret (Drawn.sameBut.refl s.drawn lw_cs) hx hb' hr hlocks dL_law_1619
    · have hj : 4 * j + 4 ≤ L := by
        rcases Nat.lt_or_ge L 4 with q | q
        · exact absurd (Int32.lt_of_lt_of_le (z_sbn 4 (by decide) L q) (nI_pos' (by omega))) hc
        · rw [pk_sub q] at hc
          rcases Nat.lt_or_ge (L - 4) (4 * j) with g | g
          · exact absurd (nI_lt g (by omega)) hc
          · omega
      refine lv_aload_n hx hb dL_law_37 rfl (lv_at hl 0 rfl) ?_
      refine lv_iload hx hb dL_law_38 (lv_at hl 5 rfl) ?_
      refine z_sld (k := 4 * j) hx hb hX hbl hS (by omega) hL dL_law_40 ?_
      refine lv_bipush (v := nI 31) hx hb dL_law_41 (by decide) ?_
      refine lv_iand hx hb dL_law_43 ?_
      refine law_sw hfl hL C0 E0 hj (by omega) (by omega) hI hS hl (fun H locs ls hI hS hl => ?_) _
      refine lv_iinc (v := nI (4 * (j + 1))) (lv' := [(5, .int (nI (4 * (j + 1)))), (0, .ref b9), (1, .ref (a 0)), (2, .ref (b 0)), (3, .ref ol), (4, .ref od)]) hx hb dL_law_1612 hl (k := 5) rfl (z_i4 j) (by decide) rfl (fun ls hl => ?_)
      refine lv_goto (tgt := 28) hx hb dL_law_1615 (by decide) ?_
      refine W.widen (k := 40 + 6 * (j + 1)) (n := 3000 + 2007 * (j + 1)) (by omega) (by omega) ?_
      exact ih (j + 1) H locs ls (by omega) (by omega) hI hS (lv_sub hl [1, 2, 3, 4, 5, 0] rfl)
