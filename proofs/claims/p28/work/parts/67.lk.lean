/-! the law: one turn of its second loop -/
def LJ (cs : Nat → ClassId) (ea : Nat) (vs : List BL) (q k : Nat) (σ : St) (u : XU) (Y : va_W) : Prop := XF cs ea u σ Y ∧ σ.1 = [] ∧ σ.2.1 = vs ∧ σ.2.2.1.length = 3 * k ∧ σ.2.2.2.2.length = 2 * k ∧ vsN (σ.2.2.2.2 ++ [σ.2.2.2.1]) 0 = [] ∧ ∃ fg : Nat → Option Nat, (q, qa cs 2 4 fg) ∈ Y ∧ ∀ i, i < 4 → ∃ r, fg i = some r ∧ (r, ba cs (vsN vs i)) ∈ Y
def LI (D : va_G) (cs : Nat → ClassId) (S0 ea : Nat) (a : Nat → Nat) (vs : List BL) (q k : Nat) (H : Heap) : Prop := ∃ (σ : St) (u : XU) (Y : va_W), Wd D S0 (XW cs a u σ Y) H ∧ LJ cs ea vs q k σ u Y
theorem ps3_0 {ps : List Pt} {x y z : Pt} : psN (((ps ++ [x]) ++ [y]) ++ [z]) ps.length = x := by
  rw [psN_lo (by rw [List.length_append, List.length_append]; show ps.length < ps.length + 1 + 1; omega), psN_lo (by rw [List.length_append]; show ps.length < ps.length + 1; omega), psN_hi]
theorem ps3_1 {ps : List Pt} {x y z : Pt} : psN (((ps ++ [x]) ++ [y]) ++ [z]) (ps.length + 1) = y := by
  have e : ps.length + 1 = (ps ++ [x]).length := by rw [List.length_append]; rfl
  rw [psN_lo (by rw [List.length_append, List.length_append]; show ps.length + 1 < ps.length + 1 + 1; omega), e, psN_hi]
theorem ps3_2 {ps : List Pt} {x y z : Pt} : psN (((ps ++ [x]) ++ [y]) ++ [z]) (ps.length + 1 + 1) = z := by
  have e : ps.length + 1 + 1 = ((ps ++ [x]) ++ [y]).length := by rw [List.length_append, List.length_append]; rfl
  rw [e, psN_hi]
theorem ps2_0 {ps : List Pt} {x y : Pt} : psN ((ps ++ [x]) ++ [y]) ps.length = x := by
  rw [psN_lo (by rw [List.length_append]; show ps.length < ps.length + 1; omega), psN_hi]
theorem ps2_1 {ps : List Pt} {x y : Pt} : psN ((ps ++ [x]) ++ [y]) (ps.length + 1) = y := by
  have e : ps.length + 1 = (ps ++ [x]).length := by rw [List.length_append]; rfl
  rw [e, psN_hi]
theorem stI_h {σ : St} {xs : BL} (h : σ.2.2.2.2.length < 20) : (stI σ xs).2.2.2.2 = σ.2.2.2.2 ++ [σ.2.2.2.1] := congrArg (fun z => z ++ [σ.2.2.2.1]) (show hisA σ.2.2.2.2 = σ.2.2.2.2 from if_pos h)

set_option maxHeartbeats 4000000 in
set_option maxRecDepth 100000 in
theorem law_k {p : Program} {l : Launch} {e : Env} {s : State} {m : MethodId} {below : List Frame} {meth : Method} {c : Code} {b9 L : Nat} {xs : Nat → Int32} (hL : L ≤ 260) (C0 : lw_At p s m meth c b9 L xs) {D : va_G} {cs : Nat → ClassId} {ea mi : Nat} {sa : Nat → Nat} {S0 : Nat} (hS0 : S0 = s.heap.size) (E0 : lw_E D cs ea mi sa s) {a : Nat → Nat} {vs : List BL} {cells slots : Nat} {H : Heap} {locs : List Loc} {ls : Array Slot} (hcl : cells + 100 ≤ 600130) (hsl : slots + 20000 ≤ 7301080) {q9a kz : Nat} (hk4 : kz < 4) (hlen : vs.length = 4) (hI : LI D cs S0 ea a vs q9a kz H) (hS : va_S (SA S0) s.heap H locs) (hl : lv_has ls 22 [(0, .ref b9), (1, .ref (a 0)), (2, .ref q9a), (3, .int (nI kz))])
    (kk : ∀ (H : Heap) (locs : List Loc) (ls : Array Slot), LI D cs S0 ea a vs q9a (kz + 1) H → va_S (SA S0) s.heap H locs → lv_has ls 22 [(0, .ref b9), (1, .ref (a 0)), (2, .ref q9a), (3, .int (nI kz))] → W p l e room_1 s m #[Value.ref b9] below meth c H locs (cells + 17) (slots + 6000) (lw_Z below #[Value.ref b9] s) (F0 m 617 ls [])) : W p l e room_1 s m #[Value.ref b9] below meth c H locs cells slots (lw_Z below #[Value.ref b9] s) (F0 m 60 ls []) := by
  obtain ⟨hx, hb, hr, hml, hown, hts0, hX, hbl, hlocks, hgv⟩ := id C0
  obtain ⟨hK, hE9, hA9⟩ := id E0
  have hE : EV (SA S0) ea mi sa s s.heap := by rw [hS0]; exact hE9
  have hb0 := hb
  have hb : c.code = cL_law := hb
  have hown : s.vm.findClass RL = some m.cls := hown
  have hts : ∀ w ∈ wsL_law, w.before #[Value.ref b9] s = true := fun w h => hts0 w (wsL_law_in w h)
  have hRc : room_1.cells = 600130 := rfl
  have hRs : room_1.slots = 7301080 := rfl
  have hSS : S0 ≤ s.heap.size := Nat.le_of_eq hS0
  have hb9 : b9 < S0 := by omega
  obtain ⟨σ, u, Y, hW, hF, hb1, hv1, hnp, hnh, hh0, fg, hq, gr⟩ := hI
  subst hv1
  have hok := hF.2.2.2.2.2.2.2.2
  refine lv_aload_n hx hb dL_law_60 rfl (lv_at hl 0 rfl) ?_
  refine lv_bipush (v := nI 8) hx hb dL_law_61 (by decide) ?_
  refine lv_iload_n hx hb dL_law_63 rfl (lv_at hl 3 rfl) ?_
  refine lv_iadd hx hb dL_law_64 ?_
  refine zti (nI_add _ _) (y := nI (8 + kz)) ?_
  refine z_cxS (As := [.ref b9, .int (nI (8 + kz))]) (rest := []) ⟨hx, hb, hml, hown, hts⟩ (c_L_cell l D cs b9 L xs hL (8 + kz) (by omega)) (va_cwS 2 hts gL_law_L_cell rfl rfl rfl (by decide +kernel) ⟨Nat.le_of_ble_eq_true rfl, Nat.le_of_ble_eq_true rfl⟩) trivial (hX.kept (hS.2.1 b9 hX.lt (Nat.not_le.mpr hb9))) hK rfl hl.1 rfl (Nat.le_of_ble_eq_true rfl) dL_law_65 ⟨by rw [hRc]; omega, by rw [hRs]; omega⟩ (fun c65 hq9 => ?_)
  refine lv_istore (lv' := [(4, .int c65), (0, .ref b9), (1, .ref (a 0)), (2, .ref q9a), (3, .int (nI kz))]) hx hb dL_law_68 hl (by decide) rfl (fun ls hl => ?_)
  refine lv_iload hx hb dL_law_70 (lv_at hl 0 rfl) ?_
  refine lv_iconst (v := nI 4) hx hb dL_law_72 (by decide) ?_
  refine z_csS (As := [.int c65, .int (nI 4)]) (rest := []) ⟨hx, hb, hml, hown, hts⟩ (c_L_below l D cs c65 4 (by omega) (by omega)) (va_cwS 2 hts gL_law_L_below rfl rfl rfl (by decide +kernel) ⟨Nat.le_of_ble_eq_true rfl, Nat.le_of_ble_eq_true rfl⟩) trivial hK rfl hl.1 rfl (Nat.le_of_ble_eq_true rfl) dL_law_73 ⟨by rw [hRc]; omega, by rw [hRs]; omega⟩ (fun r hq9 => ?_)
  obtain ⟨k73, hk73, rfl⟩ := hq9
  refine lv_istore (lv' := [(5, .int (nI k73)), (4, .int c65), (0, .ref b9), (1, .ref (a 0)), (2, .ref q9a), (3, .int (nI kz))]) hx hb dL_law_76 hl (by decide) rfl (fun ls hl => ?_)
  refine lv_iload hx hb dL_law_78 (lv_at hl 1 rfl) ?_
  refine lv_iconst (v := nI 2) hx hb dL_law_80 (by decide) ?_
  refine lv_ishr hx hb dL_law_81 ?_
  refine lv_iconst (v := nI 4) hx hb dL_law_82 (by decide) ?_
  refine z_csS (As := [.int (c65 >>> ((nI 2) &&& 31)), .int (nI 4)]) (rest := []) ⟨hx, hb, hml, hown, hts⟩ (c_L_below l D cs (c65 >>> ((nI 2) &&& 31)) 4 (by omega) (by omega)) (va_cwS 2 hts gL_law_L_below rfl rfl rfl (by decide +kernel) ⟨Nat.le_of_ble_eq_true rfl, Nat.le_of_ble_eq_true rfl⟩) trivial hK rfl hl.1 rfl (Nat.le_of_ble_eq_true rfl) dL_law_83 ⟨by rw [hRc]; omega, by rw [hRs]; omega⟩ (fun r hq9 => ?_)
  obtain ⟨k83, hk83, rfl⟩ := hq9
  refine lv_istore (lv' := [(6, .int (nI k83)), (5, .int (nI k73)), (4, .int c65), (0, .ref b9), (1, .ref (a 0)), (2, .ref q9a), (3, .int (nI kz))]) hx hb dL_law_86 hl (by decide) rfl (fun ls hl => ?_)
  refine lv_iload hx hb dL_law_88 (lv_at hl 2 rfl) ?_
  refine lv_iconst (v := nI 4) hx hb dL_law_90 (by decide) ?_
  refine lv_ishr hx hb dL_law_91 ?_
  refine lv_iconst (v := nI 4) hx hb dL_law_92 (by decide) ?_
  refine z_csS (As := [.int (c65 >>> ((nI 4) &&& 31)), .int (nI 4)]) (rest := []) ⟨hx, hb, hml, hown, hts⟩ (c_L_below l D cs (c65 >>> ((nI 4) &&& 31)) 4 (by omega) (by omega)) (va_cwS 2 hts gL_law_L_below rfl rfl rfl (by decide +kernel) ⟨Nat.le_of_ble_eq_true rfl, Nat.le_of_ble_eq_true rfl⟩) trivial hK rfl hl.1 rfl (Nat.le_of_ble_eq_true rfl) dL_law_93 ⟨by rw [hRc]; omega, by rw [hRs]; omega⟩ (fun r hq9 => ?_)
  obtain ⟨k93, hk93, rfl⟩ := hq9
  refine lv_istore (lv' := [(7, .int (nI k93)), (6, .int (nI k83)), (5, .int (nI k73)), (4, .int c65), (0, .ref b9), (1, .ref (a 0)), (2, .ref q9a), (3, .int (nI kz))]) hx hb dL_law_96 hl (by decide) rfl (fun ls hl => ?_)
  refine lv_iconst (v := nI 2) hx hb dL_law_98 (by decide) ?_
  refine lv_iload hx hb dL_law_99 (lv_at hl 3 rfl) ?_
  refine lv_bipush (v := nI 6) hx hb dL_law_101 (by decide) ?_
  refine lv_ishr hx hb dL_law_103 ?_
  refine lv_bipush (v := nI 8) hx hb dL_law_104 (by decide) ?_
  refine z_csS (As := [.int (c65 >>> ((nI 6) &&& 31)), .int (nI 8)]) (rest := [.int (nI 2)]) ⟨hx, hb, hml, hown, hts⟩ (c_L_below l D cs (c65 >>> ((nI 6) &&& 31)) 8 (by omega) (by omega)) (va_cwS 2 hts gL_law_L_below rfl rfl rfl (by decide +kernel) ⟨Nat.le_of_ble_eq_true rfl, Nat.le_of_ble_eq_true rfl⟩) trivial hK rfl hl.1 rfl (Nat.le_of_ble_eq_true rfl) dL_law_106 ⟨by rw [hRc]; omega, by rw [hRs]; omega⟩ (fun r hq9 => ?_)
  obtain ⟨k106, hk106, rfl⟩ := hq9
  refine lv_iadd hx hb dL_law_109 ?_
  refine zti (nI_add _ _) (y := nI (2 + k106)) ?_
  refine lv_istore (lv' := [(8, .int (nI (2 + k106))), (7, .int (nI k93)), (6, .int (nI k83)), (5, .int (nI k73)), (4, .int c65), (0, .ref b9), (1, .ref (a 0)), (2, .ref q9a), (3, .int (nI kz))]) hx hb dL_law_110 hl (by decide) rfl (fun ls hl => ?_)
  refine lv_aload_n hx hb dL_law_112 rfl (lv_at hl 6 rfl) ?_
  refine lv_iload hx hb dL_law_113 (lv_at hl 3 rfl) ?_
  refine lv_iload hx hb dL_law_115 (lv_at hl 2 rfl) ?_
  refine lv_iload hx hb dL_law_117 (lv_at hl 0 rfl) ?_
  refine z_cmI (va_runV (As := [.int (nI k73), .int (nI k83), .int (nI (2 + k106))]) (rest := []) ⟨hx, hb, hml, hown, hts⟩ (c_X2_difference l D cs S0 ea mi sa Y a u σ hF k73 k83 (2 + k106) (by omega) (by omega) (by omega) (by omega) (by rw [hnp]; omega)) (cwV 3 hts gL_law_X2_difference rfl rfl rfl (by decide +kernel) ⟨Nat.le_of_ble_eq_true rfl, Nat.le_of_ble_eq_true rfl⟩) ⟨zE_blind, z_recv hK (hW.1 0 _ rfl) rfl, zE_pre hW hK hE hS⟩ rfl rfl hl.1 rfl (lv_room (Nat.le_of_ble_eq_true rfl)) dL_law_119 ⟨by rw [hRc]; omega, by rw [hRs]; omega⟩) hS (fun r v0 H locs hu hW hS => ?_)
  obtain ⟨hu1, hu2⟩ := hu
  obtain ⟨P0, hP0⟩ : ∃ z, z = difP (vsN σ.2.1 k73) (vsN σ.2.1 k83) (2 + k106) := ⟨_, rfl⟩
  obtain ⟨σ1, hσ1⟩ : ∃ z, z = stP σ P0 := ⟨_, rfl⟩
  have hF1 : XF cs ea v0.1 σ1 (v0.2 ++ Y) := by rw [hσ1, hP0]; exact hu2
  have hW : Wd D S0 (XW cs a v0.1 σ1 (v0.2 ++ Y)) H := by rw [hσ1, hP0]; exact hW
  have s1v : σ1.2.1 = σ.2.1 := (congrArg (fun z : St => z.2.1) hσ1).trans rfl
  have s1p : σ1.2.2.1 = σ.2.2.1 ++ [P0] := (congrArg (fun z : St => z.2.2.1) hσ1).trans rfl
  have s1h : σ1.2.2.2 = σ.2.2.2 := (congrArg (fun z : St => z.2.2.2) hσ1).trans rfl
  have s1b : σ1.1 = σ.1 := (congrArg (fun z : St => z.1) hσ1).trans rfl
  have hn1 : σ1.2.2.1.length = 3 * kz + 1 := by rw [s1p, List.length_append, hnp]; rfl
  rw [hu1]
  refine zti (y := nI (3 * kz)) (by rw [hnp]) ?_
  refine lv_istore (lv' := [(9, .int (nI (3 * kz))), (8, .int (nI (2 + k106))), (7, .int (nI k93)), (6, .int (nI k83)), (5, .int (nI k73)), (4, .int c65), (0, .ref b9), (1, .ref (a 0)), (2, .ref q9a), (3, .int (nI kz))]) hx hb dL_law_122 hl (by decide) rfl (fun ls hl => ?_)
  refine lv_aload_n hx hb dL_law_124 rfl (lv_at hl 7 rfl) ?_
  refine lv_iload hx hb dL_law_125 (lv_at hl 3 rfl) ?_
  refine lv_iload hx hb dL_law_127 (lv_at hl 2 rfl) ?_
  refine lv_iconst (v := nI 2) hx hb dL_law_129 (by decide) ?_
  refine lv_iload hx hb dL_law_130 (lv_at hl 5 rfl) ?_
  refine lv_bipush (v := nI 9) hx hb dL_law_132 (by decide) ?_
  refine lv_ishr hx hb dL_law_134 ?_
  refine lv_bipush (v := nI 8) hx hb dL_law_135 (by decide) ?_
  refine z_csS (As := [.int (c65 >>> ((nI 9) &&& 31)), .int (nI 8)]) (rest := [.int (nI 2), .int (nI k93), .int (nI k83), .ref (a 0)]) ⟨hx, hb, hml, hown, hts⟩ (c_L_below l D cs (c65 >>> ((nI 9) &&& 31)) 8 (by omega) (by omega)) (va_cwS 2 hts gL_law_L_below rfl rfl rfl (by decide +kernel) ⟨Nat.le_of_ble_eq_true rfl, Nat.le_of_ble_eq_true rfl⟩) trivial hK rfl hl.1 rfl (Nat.le_of_ble_eq_true rfl) dL_law_137 ⟨by rw [hRc]; omega, by rw [hRs]; omega⟩ (fun r hq9 => ?_)
  obtain ⟨k137, hk137, rfl⟩ := hq9
  refine lv_iadd hx hb dL_law_140 ?_
  refine zti (nI_add _ _) (y := nI (2 + k137)) ?_
  refine z_cmI (va_runV (As := [.int (nI k83), .int (nI k93), .int (nI (2 + k137))]) (rest := []) ⟨hx, hb, hml, hown, hts⟩ (c_X2_difference l D cs S0 ea mi sa (v0.2 ++ Y) a v0.1 σ1 hF1 k83 k93 (2 + k137) (by rw [s1v]; omega) (by rw [s1v]; omega) (by omega) (by omega) (by rw [hn1]; omega)) (cwV 3 hts gL_law_X2_difference rfl rfl rfl (by decide +kernel) ⟨Nat.le_of_ble_eq_true rfl, Nat.le_of_ble_eq_true rfl⟩) ⟨zE_blind, z_recv hK (hW.1 0 _ rfl) rfl, zE_pre hW hK hE hS⟩ rfl rfl hl.1 rfl (lv_room (Nat.le_of_ble_eq_true rfl)) dL_law_141 ⟨by rw [hRc]; omega, by rw [hRs]; omega⟩) hS (fun r v1 H locs hu hW hS => ?_)
  obtain ⟨hu1, hu2⟩ := hu
  rw [s1v] at hu2 hW
  obtain ⟨P1, hP1⟩ : ∃ z, z = difP (vsN σ.2.1 k83) (vsN σ.2.1 k93) (2 + k137) := ⟨_, rfl⟩
  obtain ⟨σ2, hσ2⟩ : ∃ z, z = stP σ1 P1 := ⟨_, rfl⟩
  have hF2 : XF cs ea v1.1 σ2 (v1.2 ++ (v0.2 ++ Y)) := by rw [hσ2, hP1]; exact hu2
  have hW : Wd D S0 (XW cs a v1.1 σ2 (v1.2 ++ (v0.2 ++ Y))) H := by rw [hσ2, hP1]; exact hW
  have s2v : σ2.2.1 = σ.2.1 := (congrArg (fun z : St => z.2.1) hσ2).trans s1v
  have s2h : σ2.2.2.2 = σ.2.2.2 := (congrArg (fun z : St => z.2.2.2) hσ2).trans s1h
  have s2b : σ2.1 = σ.1 := (congrArg (fun z : St => z.1) hσ2).trans s1b
  have s2p : σ2.2.2.1 = (σ.2.2.1 ++ [P0]) ++ [P1] := (congrArg (fun z : St => z.2.2.1) hσ2).trans (congrArg (fun z => z ++ [P1]) s1p)
  have hn2 : σ2.2.2.1.length = 3 * kz + 1 + 1 := by rw [s2p, List.length_append, List.length_append, hnp]; rfl
  have p20 : psN σ2.2.2.1 (3 * kz) = P0 := by rw [s2p, ← hnp]; exact ps2_0
  have p21 : psN σ2.2.2.1 (3 * kz + 1) = P1 := by rw [s2p, ← hnp]; exact ps2_1
  rw [hu1]
  refine zti (y := nI (3 * kz + 1)) (by rw [hn1]) ?_
  refine lv_istore (lv' := [(10, .int (nI (3 * kz + 1))), (9, .int (nI (3 * kz))), (8, .int (nI (2 + k106))), (7, .int (nI k93)), (6, .int (nI k83)), (5, .int (nI k73)), (4, .int c65), (0, .ref b9), (1, .ref (a 0)), (2, .ref q9a), (3, .int (nI kz))]) hx hb dL_law_144 hl (by decide) rfl (fun ls hl => ?_)
  refine lv_aload_n hx hb dL_law_146 rfl (lv_at hl 8 rfl) ?_
  refine lv_iload hx hb dL_law_147 (lv_at hl 1 rfl) ?_
  refine lv_iload hx hb dL_law_149 (lv_at hl 0 rfl) ?_
  have e01 : P0.2.1 = vsN σ.2.1 k83 := congrArg (fun z : Pt => z.2.1) hP0
  have e00 : P0.1 = vsN σ.2.1 k73 := congrArg Prod.fst hP0
  have e10 : P1.1 = vsN σ.2.1 k83 := congrArg Prod.fst hP1
  have e11 : P1.2.1 = vsN σ.2.1 k93 := congrArg (fun z : Pt => z.2.1) hP1
  have hj20 : 3 * kz < σ2.2.2.1.length := by omega
  have hj21 : 3 * kz + 1 < σ2.2.2.1.length := by omega
  have hee : xP v1.1 6 (3 * kz) = xP v1.1 5 (3 * kz + 1) := by
    have q1 := (hF2.2.2.2.2.2.1 _ hj20).2.2
    have q2 := (hF2.2.2.2.2.2.1 _ hj21).2.1
    rw [p20, e01] at q1
    rw [p21, e10] at q2
    exact q1.one q2
  refine z_cmI (va_runV (As := [.int (nI (3 * kz)), .int (nI (3 * kz + 1))]) (rest := []) ⟨hx, hb, hml, hown, hts⟩ (c_X2_compose l D cs S0 ea mi sa (v1.2 ++ (v0.2 ++ Y)) a v1.1 σ2 hF2 (3 * kz) (3 * kz + 1) hj20 hj21 hee (by rw [hn2]; omega)) (cwV 2 hts gL_law_X2_compose rfl rfl rfl (by decide +kernel) ⟨Nat.le_of_ble_eq_true rfl, Nat.le_of_ble_eq_true rfl⟩) ⟨zE_blind, z_recv hK (hW.1 0 _ rfl) rfl, zE_pre hW hK hE hS⟩ rfl rfl hl.1 rfl (lv_room (Nat.le_of_ble_eq_true rfl)) dL_law_151 ⟨by rw [hRc]; omega, by rw [hRs]; omega⟩) hS (fun r v2 H locs hu hW hS => ?_)
  obtain ⟨hu1, hu2⟩ := hu
  rw [p20, p21] at hu2 hW
  obtain ⟨P2, hP2⟩ : ∃ z, z = cmpP P0 P1 := ⟨_, rfl⟩
  obtain ⟨σ3, hσ3⟩ : ∃ z, z = stP σ2 P2 := ⟨_, rfl⟩
  obtain ⟨Y3, hY3⟩ : ∃ z, z = v2.2 ++ (v1.2 ++ (v0.2 ++ Y)) := ⟨_, rfl⟩
  obtain ⟨u3, hu3⟩ : ∃ z, z = v2.1 := ⟨_, rfl⟩
  have hF3 : XF cs ea u3 σ3 Y3 := by rw [hσ3, hP2, hY3, hu3]; exact hu2
  have hW : Wd D S0 (XW cs a u3 σ3 Y3) H := by rw [hσ3, hP2, hY3, hu3]; exact hW
  have s3v : σ3.2.1 = σ.2.1 := (congrArg (fun z : St => z.2.1) hσ3).trans s2v
  have s3h : σ3.2.2.2 = σ.2.2.2 := (congrArg (fun z : St => z.2.2.2) hσ3).trans s2h
  have s3b : σ3.1 = σ.1 := (congrArg (fun z : St => z.1) hσ3).trans s2b
  have s3p : σ3.2.2.1 = ((σ.2.2.1 ++ [P0]) ++ [P1]) ++ [P2] := (congrArg (fun z : St => z.2.2.1) hσ3).trans (congrArg (fun z => z ++ [P2]) s2p)
  have hn3 : 3 * kz + 3 = σ3.2.2.1.length := by rw [s3p, List.length_append, List.length_append, List.length_append, hnp]; rfl
  have p30 : psN σ3.2.2.1 (3 * kz) = P0 := by rw [s3p, ← hnp]; exact ps3_0
  have p31 : psN σ3.2.2.1 (3 * kz + 1) = P1 := by rw [s3p, ← hnp]; exact ps3_1
  have p32 : psN σ3.2.2.1 (3 * kz + 1 + 1) = P2 := by rw [s3p, ← hnp]; exact ps3_2
  have e20 : P2.1 = vsN σ.2.1 k73 := (congrArg Prod.fst hP2).trans e00
  have e21 : P2.2.1 = vsN σ.2.1 k93 := (congrArg (fun z : Pt => z.2.1) hP2).trans e11
  have gg0 : PG P0 := by rw [hP0]; exact PG_dif (hok.2.1.2 _ (by omega)) (hok.2.1.2 _ (by omega)) (by omega)
  have gg1 : PG P1 := by rw [hP1]; exact PG_dif (hok.2.1.2 _ (by omega)) (hok.2.1.2 _ (by omega)) (by omega)
  have gg2 : PG P2 := by rw [hP2]; exact PG_cmp gg0 gg1 (e01.trans e10.symm) (by rw [e10]; exact (hok.2.1.2 _ (by omega)).1)
  have hnb : P0.1.length < 2 + k106 → litN (rf P0.2.2) P0.2.1.length = P0.2.1.length := by rw [hP0]; exact fun h9 => dif_none (by omega) h9
  have hq3 : (q9a, qa cs 2 4 fg) ∈ Y3 := by rw [hY3]; exact List.mem_append_right _ (List.mem_append_right _ (List.mem_append_right _ hq))
  have gr3 : ∀ i, i < 4 → ∃ r, fg i = some r ∧ (r, ba cs (vsN σ3.2.1 i)) ∈ Y3 := fun i hi => by
    obtain ⟨r9, h9, h8⟩ := gr i hi
    exact ⟨r9, h9, by rw [hY3, s3v]; exact List.mem_append_right _ (List.mem_append_right _ (List.mem_append_right _ h8))⟩
  have hok3 := hF3.2.2.2.2.2.2.2.2
  have hj30 : 3 * kz < σ3.2.2.1.length := by omega
  have hj31 : 3 * kz + 1 < σ3.2.2.1.length := by omega
  have hj32 : 3 * kz + 1 + 1 < σ3.2.2.1.length := by omega
  have cb0 : costN (rf P0.2.2) P0.2.1.length ≤ 2400 := cost_24 _ (by rw [← p30]; exact (hok3.2.2.1.2 _ hj30).2.1.1)
  have cb1 : costN (rf P1.2.2) P1.2.1.length ≤ 2400 := cost_24 _ (by rw [← p31]; exact (hok3.2.2.1.2 _ hj31).2.1.1)
  have cb2 : costN (rf P2.2.2) P2.2.1.length ≤ 2400 := cost_24 _ (by rw [← p32]; exact (hok3.2.2.1.2 _ hj32).2.1.1)
  have hl4 : σ3.2.1.length = 4 := by rw [s3v]; exact hlen
  rw [hu1]
  refine zti (y := nI (3 * kz + 1 + 1)) (by rw [hn2]) ?_
  refine lv_istore (lv' := [(11, .int (nI (3 * kz + 1 + 1))), (10, .int (nI (3 * kz + 1))), (9, .int (nI (3 * kz))), (8, .int (nI (2 + k106))), (7, .int (nI k93)), (6, .int (nI k83)), (5, .int (nI k73)), (4, .int c65), (0, .ref b9), (1, .ref (a 0)), (2, .ref q9a), (3, .int (nI kz))]) hx hb dL_law_154 hl (by decide) rfl (fun ls hl => ?_)
  refine lv_iload hx hb dL_law_156 (lv_at hl 2 rfl) ?_
  refine lv_iconst (v := nI 3) hx hb dL_law_158 (by decide) ?_
  refine lv_iload_n hx hb dL_law_159 rfl (lv_at hl 11 rfl) ?_
  refine lv_imul hx hb dL_law_160 ?_
  refine zti (pk_mul _ _) (y := nI (3 * kz)) ?_
  refine z_icmp_ne (tgt := 182) hx hb (by omega) (by omega) dL_law_161 (by decide) (fun hc161 => ?_) (fun hc161 => ?_)
  · skip
    have hc161 : ¬ 3 * kz = 3 * kz := hc161
    exact absurd rfl hc161
  · skip
    have hc161 : 3 * kz = 3 * kz := hc161
    refine lv_iload hx hb dL_law_164 (lv_at hl 1 rfl) ?_
    refine lv_iload hx hb dL_law_166 (lv_at hl 2 rfl) ?_
    refine lv_iconst (v := nI 1) hx hb dL_law_168 (by decide) ?_
    refine lv_iadd hx hb dL_law_169 ?_
    refine zti (nI_add _ _) (y := nI (3 * kz + 1)) ?_
    refine z_icmp_ne (tgt := 182) hx hb (by omega) (by omega) dL_law_170 (by decide) (fun hc170 => ?_) (fun hc170 => ?_)
    · skip
      have hc170 : ¬ 3 * kz + 1 = 3 * kz + 1 := hc170
      exact absurd rfl hc170
    · skip
      have hc170 : 3 * kz + 1 = 3 * kz + 1 := hc170
      refine lv_iload hx hb dL_law_173 (lv_at hl 0 rfl) ?_
      refine lv_iload hx hb dL_law_175 (lv_at hl 1 rfl) ?_
      refine lv_iconst (v := nI 1) hx hb dL_law_177 (by decide) ?_
      refine lv_iadd hx hb dL_law_178 ?_
      refine zti (nI_add _ _) (y := nI (3 * kz + 1 + 1)) ?_
      refine z_icmp_eq (tgt := 184) hx hb (by omega) (by omega) dL_law_179 (by decide) (fun hc179 => ?_) (fun hc179 => ?_)
      · skip
        have hc179 : 3 * kz + 1 + 1 = 3 * kz + 1 + 1 := hc179
        refine law_pl hL C0 hS0 E0 (by omega) (by omega) hW hF3 hS (q9a := q9a) (kz := kz) (aa := k73) (ba9 := k83) (ca := k93) (sz := 2 + k106) (pp := 3 * kz) (xz := c65) hn3 hk73 hk83 hk93 (by omega) hq3 gr3 p30 p31 p32 (by rw [s3v]; exact e00) (by rw [s3v]; exact e01) (by rw [s3v]; exact e10) (by rw [s3v]; exact e11) (by rw [s3v]; exact e20) (by rw [s3v]; exact e21) gg0 gg1 gg2 hnb (lv_sub hl [8, 9, 10, 11, 7, 6, 5, 4, 3, 2, 1, 0] rfl) (fun ls hl => ?_)
        refine lv_aload_n hx hb dL_law_509 rfl (lv_at hl 1 rfl) ?_
        refine lv_iload hx hb dL_law_510 (lv_at hl 5 rfl) ?_
        refine lv_iload hx hb dL_law_512 (lv_at hl 7 rfl) ?_
        refine z_cmI (va_runV (As := [.int (nI k73), .int (nI k93)]) (rest := []) ⟨hx, hb, hml, hown, hts⟩ (c_X2_steps l D cs S0 ea mi sa Y3 a u3 σ3 hF3 k73 k93 (by omega) (by omega)) (cwV 2 hts gL_law_X2_steps rfl rfl rfl (by decide +kernel) ⟨Nat.le_of_ble_eq_true rfl, Nat.le_of_ble_eq_true rfl⟩) ⟨zE_blind, z_recv hK (hW.1 0 _ rfl) rfl, zE_pre hW hK hE hS⟩ rfl rfl hl.1 rfl (lv_room (Nat.le_of_ble_eq_true rfl)) dL_law_514 ⟨by rw [hRc]; omega, by rw [hRs]; omega⟩) hS (fun r v514 H locs hu hW hS => ?_)
        obtain ⟨u4, hW, hF4⟩ : ∃ u9, Wd D S0 (XW cs a u9 σ3 Y3) H ∧ XF cs ea u9 σ3 Y3 := ⟨_, hW, hF3.rch⟩
        obtain ⟨t514, ta514, tb514, tc514⟩ := lead_up hF3 (v := k73) (x := k83) (w := k93) (j1 := 3 * kz) (j2 := 3 * kz + 1) (j3 := 3 * kz + 1 + 1) (by omega) (by omega) (by omega) hj30 hj31 hj32 (by omega) (by rw [p30, s3v]; exact e00) (by rw [p30, s3v]; exact e01) (by rw [p31, s3v]; exact e10) (by rw [p31, s3v]; exact e11) (by rw [p32, s3v]; exact e20) (by rw [p32, s3v]; exact e21) (fun _ => 1) (fun _ _ => (by decide : (1 : Nat) ≤ 2400))
        have ta514 : t514 ≤ 1 := ta514
        have hu : r = nI t514 := hu.trans tc514
        rw [hu]
        have hXH := XH.of hW hF4
        refine lv_iconst (v := nI 2) hx hb dL_law_517 (by decide) ?_
        refine z_icmp_gt (tgt := 576) hx hb (by omega) (by omega) dL_law_518 (by decide) (fun hc518 => ?_) (fun hc518 => ?_)
        · skip
          have hc518 : 2 < t514 := hc518
          omega
        · skip
          have hc518 : t514 ≤ 2 := hc518
          refine lv_aload_n hx hb dL_law_521 rfl (lv_at hl 1 rfl) ?_
          refine lv_iload hx hb dL_law_522 (lv_at hl 5 rfl) ?_
          refine lv_iload hx hb dL_law_524 (lv_at hl 7 rfl) ?_
          refine z_cmI (va_runV (As := [.int (nI k73), .int (nI k93)]) (rest := []) ⟨hx, hb, hml, hown, hts⟩ (c_X2_steps l D cs S0 ea mi sa Y3 a u4 σ3 hF4 k73 k93 (by omega) (by omega)) (cwV 2 hts gL_law_X2_steps rfl rfl rfl (by decide +kernel) ⟨Nat.le_of_ble_eq_true rfl, Nat.le_of_ble_eq_true rfl⟩) ⟨zE_blind, z_recv hK (hW.1 0 _ rfl) rfl, zE_pre hW hK hE hS⟩ rfl rfl hl.1 rfl (lv_room (Nat.le_of_ble_eq_true rfl)) dL_law_526 ⟨by rw [hRc]; omega, by rw [hRs]; omega⟩) hS (fun r v526 H locs hu hW hS => ?_)
          obtain ⟨u5, hW, hF5⟩ : ∃ u9, Wd D S0 (XW cs a u9 σ3 Y3) H ∧ XF cs ea u9 σ3 Y3 := ⟨_, hW, hF4.rch⟩
          obtain ⟨t526, ta526, tb526, tc526⟩ := lead_up hF4 (v := k73) (x := k83) (w := k93) (j1 := 3 * kz) (j2 := 3 * kz + 1) (j3 := 3 * kz + 1 + 1) (by omega) (by omega) (by omega) hj30 hj31 hj32 (by omega) (by rw [p30, s3v]; exact e00) (by rw [p30, s3v]; exact e01) (by rw [p31, s3v]; exact e10) (by rw [p31, s3v]; exact e11) (by rw [p32, s3v]; exact e20) (by rw [p32, s3v]; exact e21) (fun _ => 1) (fun _ _ => (by decide : (1 : Nat) ≤ 2400))
          have ta526 : t526 ≤ 1 := ta526
          have hu : r = nI t526 := hu.trans tc526
          rw [hu]
          have hXH := XH.of hW hF5
          refine z_ifn_lt (tgt := 576) hx hb (by omega) dL_law_529 (by decide) ?_
          refine lv_aload_n hx hb dL_law_532 rfl (lv_at hl 1 rfl) ?_
          refine lv_iload hx hb dL_law_533 (lv_at hl 5 rfl) ?_
          refine lv_iload hx hb dL_law_535 (lv_at hl 7 rfl) ?_
          refine z_cmI (va_runV (As := [.int (nI k73), .int (nI k93)]) (rest := []) ⟨hx, hb, hml, hown, hts⟩ (c_X2_leastCost l D cs S0 ea mi sa Y3 a u5 σ3 hF5 k73 k93 (by omega) (by omega)) (cwV 2 hts gL_law_X2_leastCost rfl rfl rfl (by decide +kernel) ⟨Nat.le_of_ble_eq_true rfl, Nat.le_of_ble_eq_true rfl⟩) ⟨zE_blind, z_recv hK (hW.1 0 _ rfl) rfl, zE_pre hW hK hE hS⟩ rfl rfl hl.1 rfl (lv_room (Nat.le_of_ble_eq_true rfl)) dL_law_537 ⟨by rw [hRc]; omega, by rw [hRs]; omega⟩) hS (fun r v537 H locs hu hW hS => ?_)
          obtain ⟨u6, hW, hF6⟩ : ∃ u9, Wd D S0 (XW cs a u9 σ3 Y3) H ∧ XF cs ea u9 σ3 Y3 := ⟨_, hW, hF5.rch⟩
          obtain ⟨t537, ta537, tb537, tc537⟩ := lead_up hF5 (v := k73) (x := k83) (w := k93) (j1 := 3 * kz) (j2 := 3 * kz + 1) (j3 := 3 * kz + 1 + 1) (by omega) (by omega) (by omega) hj30 hj31 hj32 (by omega) (by rw [p30, s3v]; exact e00) (by rw [p30, s3v]; exact e01) (by rw [p31, s3v]; exact e10) (by rw [p31, s3v]; exact e11) (by rw [p32, s3v]; exact e20) (by rw [p32, s3v]; exact e21) (fun j => costN (rf (psN σ3.2.2.1 j).2.2) (psN σ3.2.2.1 j).2.1.length) (fun j hj => cost_24 _ (hok3.2.2.1.2 j hj).2.1.1)
          have ta537 : t537 ≤ costN (rf (psN σ3.2.2.1 (3 * kz + 1 + 1)).2.2) (psN σ3.2.2.1 (3 * kz + 1 + 1)).2.1.length := ta537
          rw [p32] at ta537
          have tb537 : t537 ≤ costN (rf (psN σ3.2.2.1 (3 * kz)).2.2) (psN σ3.2.2.1 (3 * kz)).2.1.length + costN (rf (psN σ3.2.2.1 (3 * kz + 1)).2.2) (psN σ3.2.2.1 (3 * kz + 1)).2.1.length := tb537
          rw [p30, p31] at tb537
          have hu : r = nI t537 := hu.trans tc537
          rw [hu]
          have hXH := XH.of hW hF6
          refine lv_aload_n hx hb dL_law_540 rfl (lv_at hl 1 rfl) ?_
          refine lv_iload hx hb dL_law_541 (lv_at hl 11 rfl) ?_
          refine z_ceV (As := [.int (nI (3 * kz + 1 + 1))]) (rest := [.int (nI t537)]) ⟨hx, hb, hml, hown, hts⟩ (c_X2_cost l D cs S0 ea mi sa a u6 σ3 (3 * kz + 1 + 1) hj32) (cwV 1 hts gL_law_X2_cost rfl rfl rfl (by decide +kernel) ⟨Nat.le_of_ble_eq_true rfl, Nat.le_of_ble_eq_true rfl⟩) hXH.1 rfl hXH hK hE hS rfl hl.1 rfl (Nat.le_of_ble_eq_true rfl) dL_law_543 ⟨by rw [hRc]; omega, by rw [hRs]; omega⟩ (fun r hq9 => ?_)
          have hq9 : r = nI (costN (rf P2.2.2) P2.2.1.length) := by rw [hq9, p32]
          rw [hq9]
          refine lv_aload_n hx hb dL_law_546 rfl (lv_at hl 1 rfl) ?_
          refine lv_iload hx hb dL_law_547 (lv_at hl 9 rfl) ?_
          refine z_ceV (As := [.int (nI (3 * kz))]) (rest := [.int (nI (costN (rf P2.2.2) P2.2.1.length)), .int (nI t537)]) ⟨hx, hb, hml, hown, hts⟩ (c_X2_cost l D cs S0 ea mi sa a u6 σ3 (3 * kz) hj30) (cwV 1 hts gL_law_X2_cost rfl rfl rfl (by decide +kernel) ⟨Nat.le_of_ble_eq_true rfl, Nat.le_of_ble_eq_true rfl⟩) hXH.1 rfl hXH hK hE hS rfl hl.1 rfl (Nat.le_of_ble_eq_true rfl) dL_law_549 ⟨by rw [hRc]; omega, by rw [hRs]; omega⟩ (fun r hq9 => ?_)
          have hq9 : r = nI (costN (rf P0.2.2) P0.2.1.length) := by rw [hq9, p30]
          rw [hq9]
          refine lv_aload_n hx hb dL_law_552 rfl (lv_at hl 1 rfl) ?_
          refine lv_iload hx hb dL_law_553 (lv_at hl 10 rfl) ?_
          refine z_ceV (As := [.int (nI (3 * kz + 1))]) (rest := [.int (nI (costN (rf P0.2.2) P0.2.1.length)), .int (nI (costN (rf P2.2.2) P2.2.1.length)), .int (nI t537)]) ⟨hx, hb, hml, hown, hts⟩ (c_X2_cost l D cs S0 ea mi sa a u6 σ3 (3 * kz + 1) hj31) (cwV 1 hts gL_law_X2_cost rfl rfl rfl (by decide +kernel) ⟨Nat.le_of_ble_eq_true rfl, Nat.le_of_ble_eq_true rfl⟩) hXH.1 rfl hXH hK hE hS rfl hl.1 rfl (Nat.le_of_ble_eq_true rfl) dL_law_555 ⟨by rw [hRc]; omega, by rw [hRs]; omega⟩ (fun r hq9 => ?_)
          have hq9 : r = nI (costN (rf P1.2.2) P1.2.1.length) := by rw [hq9, p31]
          rw [hq9]
          refine lv_iadd hx hb dL_law_558 ?_
          refine zti (nI_add _ _) (y := nI (costN (rf P0.2.2) P0.2.1.length + (costN (rf P1.2.2) P1.2.1.length))) ?_
          refine va_mmin (x := nI (costN (rf P2.2.2) P2.2.1.length)) (y := nI (costN (rf P0.2.2) P0.2.1.length + (costN (rf P1.2.2) P1.2.1.length))) hx hb (hml.trans hl.1.symm) hown (hts (.methodLink RL 19 Lib.Math.min.name) (by decide +kernel)) (hts (.static Lib.Math.min.name) (by decide +kernel)) (hts (.initialized "java/lang/Math") (by decide +kernel)) (hts (.code Lib.Math.min.name Lib.Math.min.code 2 (some .int)) (by decide +kernel)) (Nat.le_of_ble_eq_true rfl) (Nat.le_of_ble_eq_true rfl) (by rw [hRc]; omega) (by rw [hRs]; omega) dL_law_559 ?_
          obtain ⟨mn9, hmn9, emn9⟩ := mnN (x := costN (rf P2.2.2) P2.2.1.length) (y := costN (rf P0.2.2) P0.2.1.length + (costN (rf P1.2.2) P1.2.1.length)) (by omega) (by omega)
          refine zti emn9 ?_
          refine z_icmp_gt (tgt := 576) hx hb (by omega) (by omega) dL_law_562 (by decide) (fun hc562 => ?_) (fun hc562 => ?_)
          · skip
            have hc562 : mn9 < t537 := hc562
            rcases hmn9 with h9 | h9 <;> omega
          · skip
            have hc562 : t537 ≤ mn9 := hc562
            refine lv_aload_n hx hb dL_law_565 rfl (lv_at hl 1 rfl) ?_
            refine lv_iload hx hb dL_law_566 (lv_at hl 5 rfl) ?_
            refine lv_iload hx hb dL_law_568 (lv_at hl 5 rfl) ?_
            refine z_cmI (va_runV (As := [.int (nI k73), .int (nI k73)]) (rest := []) ⟨hx, hb, hml, hown, hts⟩ (c_X2_leastCost l D cs S0 ea mi sa Y3 a u6 σ3 hF6 k73 k73 (by omega) (by omega)) (cwV 2 hts gL_law_X2_leastCost rfl rfl rfl (by decide +kernel) ⟨Nat.le_of_ble_eq_true rfl, Nat.le_of_ble_eq_true rfl⟩) ⟨zE_blind, z_recv hK (hW.1 0 _ rfl) rfl, zE_pre hW hK hE hS⟩ rfl rfl hl.1 rfl (lv_room (Nat.le_of_ble_eq_true rfl)) dL_law_570 ⟨by rw [hRc]; omega, by rw [hRs]; omega⟩) hS (fun r v570 H locs hu hW hS => ?_)
            obtain ⟨u7, hW, hF7⟩ : ∃ u9, Wd D S0 (XW cs a u9 σ3 Y3) H ∧ XF cs ea u9 σ3 Y3 := ⟨_, hW, hF6.rch⟩
            have hu : r = nI 0 := hu.trans (lead_self hF6 (fun j => costN (rf (psN σ3.2.2.1 j).2.2) (psN σ3.2.2.1 j).2.1.length) (fun j hj => cost_24 _ (hok3.2.2.1.2 j hj).2.1.1))
            rw [hu]
            have hXH := XH.of hW hF7
            refine lv_if_eq (tgt := 578) hx hb dL_law_573 (by decide) (fun _ => ?_) (fun h9 => absurd (by decide) h9)
            refine lv_aload_n hx hb dL_law_578 rfl (lv_at hl 1 rfl) ?_
            refine lv_iload hx hb dL_law_579 (lv_at hl 5 rfl) ?_
            have hh3 : σ3.2.2.2.2.length = 2 * kz := by rw [s3h]; exact hnh
            refine z_cmI (va_runV (As := [.int (nI k73)]) (rest := []) ⟨hx, hb, hml, hown, hts⟩ (c_X2_installVersion l D cs S0 ea mi sa Y3 a u7 σ3 hF7 k73 (by omega)) (cwV 1 hts gL_law_X2_installVersion rfl rfl rfl (by decide +kernel) ⟨Nat.le_of_ble_eq_true rfl, Nat.le_of_ble_eq_true rfl⟩) ⟨zE_blind, z_recv hK (hW.1 0 _ rfl) rfl, zE_pre hW hK hE hS⟩ rfl rfl hl.1 rfl (lv_room (Nat.le_of_ble_eq_true rfl)) dL_law_581 ⟨by rw [hRc]; omega, by rw [hRs]; omega⟩) hS (fun r v8 H locs hu hW hS => ?_)
            obtain ⟨σ4, hσ4⟩ : ∃ z, z = stI σ3 (vsN σ3.2.1 k73) := ⟨_, rfl⟩
            rw [← hσ4] at hu hW
            obtain ⟨hu1, hF8⟩ := hu
            have s4v : σ4.2.1 = σ3.2.1 := (congrArg (fun z : St => z.2.1) hσ4).trans rfl
            have s4p : σ4.2.2.1 = σ3.2.2.1 := (congrArg (fun z : St => z.2.2.1) hσ4).trans rfl
            have s4b : σ4.1 = σ3.1 := (congrArg (fun z : St => z.1) hσ4).trans rfl
            have s4i : σ4.2.2.2.1 = vsN σ3.2.1 k73 := (congrArg (fun z : St => z.2.2.2.1) hσ4).trans rfl
            have s4h : σ4.2.2.2.2 = σ3.2.2.2.2 ++ [σ3.2.2.2.1] := (congrArg (fun z : St => z.2.2.2.2) hσ4).trans (stI_h (by omega))
            have hh4 : σ4.2.2.2.2.length = 2 * kz + 1 := by rw [s4h, List.length_append, hh3]; rfl
            rw [hu1]
            refine zti (y := nI (2 * kz + 1)) (by rw [hh4]) ?_
            refine lv_iconst (v := nI 2) hx hb dL_law_584 (by decide) ?_
            refine lv_iload_n hx hb dL_law_585 rfl (lv_at hl 3 rfl) ?_
            refine lv_imul hx hb dL_law_586 ?_
            refine zti (pk_mul _ _) (y := nI (2 * kz)) ?_
            refine lv_iconst (v := nI 1) hx hb dL_law_587 (by decide) ?_
            refine lv_iadd hx hb dL_law_588 ?_
            refine zti (nI_add _ _) (y := nI (2 * kz + 1)) ?_
            refine z_icmp_ne (tgt := 615) hx hb (by omega) (by omega) dL_law_589 (by decide) (fun hc589 => ?_) (fun hc589 => ?_)
            · skip
              have hc589 : ¬ 2 * kz + 1 = 2 * kz + 1 := hc589
              exact absurd rfl hc589
            · skip
              have hc589 : 2 * kz + 1 = 2 * kz + 1 := hc589
              refine lv_aload_n hx hb dL_law_592 rfl (lv_at hl 1 rfl) ?_
              refine lv_iload hx hb dL_law_593 (lv_at hl 11 rfl) ?_
              have hj4 : 3 * kz + 1 + 1 < σ4.2.2.1.length := by rw [s4p]; exact hj32
              have p42 : psN σ4.2.2.1 (3 * kz + 1 + 1) = P2 := by rw [s4p]; exact p32
              refine z_cmI (va_runV (As := [.int (nI (3 * kz + 1 + 1))]) (rest := []) ⟨hx, hb, hml, hown, hts⟩ (c_X2_installPatch l D cs S0 ea mi sa (v8.2 ++ Y3) a v8.1 σ4 hF8 (3 * kz + 1 + 1) hj4 (by rw [p42, s4i, e20, s3v]; exact eqL_rf _)) (cwV 1 hts gL_law_X2_installPatch rfl rfl rfl (by decide +kernel) ⟨Nat.le_of_ble_eq_true rfl, Nat.le_of_ble_eq_true rfl⟩) ⟨zE_blind, z_recv hK (hW.1 0 _ rfl) rfl, zE_pre hW hK hE hS⟩ rfl rfl hl.1 rfl (lv_room (Nat.le_of_ble_eq_true rfl)) dL_law_595 ⟨by rw [hRc]; omega, by rw [hRs]; omega⟩) hS (fun r v9 H locs hu hW hS => ?_)
              rw [p42] at hu hW
              obtain ⟨σ5, hσ5⟩ : ∃ z, z = stI σ4 P2.2.1 := ⟨_, rfl⟩
              rw [← hσ5] at hu hW
              obtain ⟨hu1, hF9⟩ := hu
              have s5v : σ5.2.1 = σ4.2.1 := (congrArg (fun z : St => z.2.1) hσ5).trans rfl
              have s5p : σ5.2.2.1 = σ4.2.2.1 := (congrArg (fun z : St => z.2.2.1) hσ5).trans rfl
              have s5b : σ5.1 = σ4.1 := (congrArg (fun z : St => z.1) hσ5).trans rfl
              have s5i : σ5.2.2.2.1 = P2.2.1 := (congrArg (fun z : St => z.2.2.2.1) hσ5).trans rfl
              have s5h : σ5.2.2.2.2 = σ4.2.2.2.2 ++ [σ4.2.2.2.1] := (congrArg (fun z : St => z.2.2.2.2) hσ5).trans (stI_h (by omega))
              have hh5 : σ5.2.2.2.2.length = 2 * kz + 2 := by rw [s5h, List.length_append, hh4]; rfl
              have hXH := XH.of hW hF9
              rw [hu1]
              refine zti (y := nI (2 * kz + 2)) (by rw [hh5]) ?_
              refine lv_iconst (v := nI 2) hx hb dL_law_598 (by decide) ?_
              refine lv_iload_n hx hb dL_law_599 rfl (lv_at hl 3 rfl) ?_
              refine lv_imul hx hb dL_law_600 ?_
              refine zti (pk_mul _ _) (y := nI (2 * kz)) ?_
              refine lv_iconst (v := nI 2) hx hb dL_law_601 (by decide) ?_
              refine lv_iadd hx hb dL_law_602 ?_
              refine zti (nI_add _ _) (y := nI (2 * kz + 2)) ?_
              refine z_icmp_ne (tgt := 615) hx hb (by omega) (by omega) dL_law_603 (by decide) (fun hc603 => ?_) (fun hc603 => ?_)
              · skip
                have hc603 : ¬ 2 * kz + 2 = 2 * kz + 2 := hc603
                exact absurd rfl hc603
              · skip
                have hc603 : 2 * kz + 2 = 2 * kz + 2 := hc603
                refine lv_aload_n hx hb dL_law_606 rfl (lv_at hl 1 rfl) ?_
                refine lv_iload hx hb dL_law_607 (lv_at hl 7 rfl) ?_
                refine z_ceV (As := [.int (nI k93)]) (rest := []) ⟨hx, hb, hml, hown, hts⟩ (c_X2_isInstalled l D cs S0 ea mi sa a v9.1 σ5 k93 (by rw [s5v, s4v]; omega)) (cwV 1 hts gL_law_X2_isInstalled rfl rfl rfl (by decide +kernel) ⟨Nat.le_of_ble_eq_true rfl, Nat.le_of_ble_eq_true rfl⟩) hXH.1 rfl hXH hK hE hS rfl hl.1 rfl (Nat.le_of_ble_eq_true rfl) dL_law_609 ⟨by rw [hRc]; omega, by rw [hRs]; omega⟩ (fun r hq9 => ?_)
                have hq9 : r = bI true := by rw [hq9, s5i, s5v, s4v, s3v, e21, eqL_rf]
                rw [hq9]
                refine z_ifb_ne (tgt := 617) hx hb dL_law_612 (by decide) (fun _ => ?_) (fun h9 => absurd h9 (by decide))
                have hv5 : σ5.2.1 = σ.2.1 := s5v.trans (s4v.trans s3v)
                have hn5 : σ5.2.2.1.length = 3 * (kz + 1) := by rw [s5p, s4p]; omega
                have h05 : vsN (σ5.2.2.2.2 ++ [σ5.2.2.2.1]) 0 = [] := by
                  rw [vsN_lo (by omega), s5h, vsN_lo (by omega), s4h, s3h]
                  exact hh0
                refine W.widen (k := cells + 17) (n := slots + 6000) (by omega) (by omega) ?_
                exact kk H locs ls ⟨σ5, v9.1, v9.2 ++ (v8.2 ++ Y3), hW, hF9, s5b.trans (s4b.trans (s3b.trans hb1)), hv5, hn5, by omega, h05, fg, List.mem_append_right _ (List.mem_append_right _ hq3), fun i hi => by
                  obtain ⟨r9, h9, h8⟩ := gr3 i hi
                  exact ⟨r9, h9, by rw [← s3v]; exact List.mem_append_right _ (List.mem_append_right _ h8)⟩⟩ hS (lv_sub hl [0, 1, 2, 3] rfl)
      · skip
        have hc179 : ¬ 3 * kz + 1 + 1 = 3 * kz + 1 + 1 := hc179
        exact absurd rfl hc179
