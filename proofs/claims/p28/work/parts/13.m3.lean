/-! where each byte of a goal comes from -/
theorem upd_ok {g F : Nat → Int32} {k : Nat} {v : Int32} (h : ∀ i, i < k → g i = F i) (hv : v = F k) : ∀ i, i < k + 1 → upd g k v i = F i := by
  intro i hi
  by_cases e : i = k
  · rw [e, ← hv]; exact if_pos rfl
  · rw [show upd g k v i = g i from if_neg e]; exact h i (by omega)
def mdS (B : Nat → Option Nat → Option Nat) (size p : Nat) (s : Option Nat × Nat) : Option Nat × Nat :=
  if s.2 = 0 then match B p s.1 with
    | some b => (some b, size)
    | none => (s.1, 0)
  else s
def stS (B : Nat → Option Nat → Option Nat) (size : Nat) : Nat → Option Nat × Nat
  | 0 => (none, 0)
  | p + 1 => ((mdS B size p (stS B size p)).1, (mdS B size p (stS B size p)).2 - 1)
def outS (size : Nat) (m : Option Nat × Nat) : Int32 := if m.2 = 0 then (-1) else match m.1 with
  | some b => nI ((b + 1) * size - m.2)
  | none => (-1)
def difO (B : Nat → Option Nat → Option Nat) (size p : Nat) : Int32 := outS size (mdS B size p (stS B size p))
theorem st_ok {B : Nat → Option Nat → Option Nat} {size N : Nat} (hB : ∀ p l b, B p l = some b → b < N) : ∀ p, (∀ q, (stS B size p).1 = some q → q < N) ∧ ((stS B size p).2 = 0 ∨ ∃ b, (stS B size p).1 = some b) ∧ (stS B size p).2 ≤ size
  | 0 => ⟨fun q h => (by cases h), Or.inl rfl, Nat.zero_le _⟩
  | p + 1 => by
    obtain ⟨h1, h2, h3⟩ := st_ok (size := size) hB p
    by_cases h : (stS B size p).2 = 0
    · cases hb : B p (stS B size p).1 with
      | some b =>
        have e : mdS B size p (stS B size p) = (some b, size) := by unfold mdS; rw [if_pos h, hb]
        have e2 : stS B size (p + 1) = (some b, size - 1) := by show ((mdS B size p (stS B size p)).1, (mdS B size p (stS B size p)).2 - 1) = _; rw [e]
        rw [e2]
        exact ⟨fun q hq => by cases hq; exact hB _ _ _ hb, Or.inr ⟨b, rfl⟩, Nat.sub_le _ _⟩
      | none =>
        have e : mdS B size p (stS B size p) = ((stS B size p).1, 0) := by unfold mdS; rw [if_pos h, hb]
        have e2 : stS B size (p + 1) = ((stS B size p).1, 0) := by show ((mdS B size p (stS B size p)).1, (mdS B size p (stS B size p)).2 - 1) = _; (rw [e] <;> rfl)
        rw [e2]
        exact ⟨h1, Or.inl rfl, Nat.zero_le _⟩
    · have e : mdS B size p (stS B size p) = stS B size p := by unfold mdS; rw [if_neg h]
      have e2 : stS B size (p + 1) = ((stS B size p).1, (stS B size p).2 - 1) := by show ((mdS B size p (stS B size p)).1, (mdS B size p (stS B size p)).2 - 1) = _; rw [e]
      rw [e2]
      refine ⟨h1, ?_, Nat.le_trans (Nat.sub_le _ _) h3⟩
      rcases h2 with h2 | h2
      · exact absurd h2 h
      · exact Or.inr h2
theorem md_l {B : Nat → Option Nat → Option Nat} {size p : Nat} {last : Option Nat} (hs : stS B size p = (last, 0)) (hb : B p last = none) : difO B size p = (-1) ∧ stS B size (p + 1) = (last, 0) := by
  have e : mdS B size p (stS B size p) = (last, 0) := by rw [hs]; unfold mdS; rw [if_pos rfl, hb]
  exact ⟨by unfold difO; rw [e]; rfl, by show ((mdS B size p (stS B size p)).1, (mdS B size p (stS B size p)).2 - 1) = _; (rw [e] <;> rfl)⟩
theorem md_b {B : Nat → Option Nat → Option Nat} {size p b : Nat} {last : Option Nat} (h2 : 0 < size) (hs : stS B size p = (last, 0)) (hb : B p last = some b) : difO B size p = nI ((b + 1) * size - size) ∧ stS B size (p + 1) = (some b, size - 1) := by
  have e : mdS B size p (stS B size p) = (some b, size) := by rw [hs]; unfold mdS; rw [if_pos rfl, hb]
  exact ⟨by unfold difO outS; rw [e, if_neg (show ¬ size = 0 by omega)], by show ((mdS B size p (stS B size p)).1, (mdS B size p (stS B size p)).2 - 1) = _; rw [e]⟩
theorem md_c {B : Nat → Option Nat → Option Nat} {size p b left : Nat} (hs : stS B size p = (some b, left)) (hl : ¬ left = 0) : difO B size p = nI ((b + 1) * size - left) ∧ stS B size (p + 1) = (some b, left - 1) := by
  have e : mdS B size p (stS B size p) = (some b, left) := by rw [hs]; unfold mdS; rw [if_neg hl]
  exact ⟨by unfold difO outS; rw [e, if_neg hl], by show ((mdS B size p (stS B size p)).1, (mdS B size p (stS B size p)).2 - 1) = _; rw [e]⟩
theorem btc_lt {f g : Nat → Int32} {n0 n1 place size b : Nat} {last : Option Nat} (h : btc f n0 g n1 place size last = some b) : b < n0 / size := by
  by_cases h1 : n1 < place + size
  · rw [btc_lo h1] at h; cases h
  · cases last with
    | none => rw [btc_no (Nat.le_of_not_lt h1)] at h; exact (fsF_of h).1
    | some q =>
      by_cases h2 : q + 1 < n0 / size
      · cases h3 : stB f g ((q + 1) * size) place size with
        | true => rw [btc_nx (Nat.le_of_not_lt h1) h2 h3] at h; cases h; exact h2
        | false => rw [btc_s2 (Nat.le_of_not_lt h1) h3] at h; exact (fsF_of h).1
      · rw [btc_s1 (Nat.le_of_not_lt h1) h2] at h; exact (fsF_of h).1
abbrev BT (f : Nat → Int32) (n0 : Nat) (g : Nat → Int32) (n1 size : Nat) : Nat → Option Nat → Option Nat := fun place last => btc f n0 g n1 place size last
def cmpO (f1 f2 : Nat → Int32) (k : Nat) : Int32 := if f2 k = (-1) then (-1) else f1 (f2 k).toNatClampNeg
theorem cmp_l {f1 f2 : Nat → Int32} {k : Nat} (h : f2 k = (-1)) : (-1) = cmpO f1 f2 k := (if_pos h).symm
theorem cmp_c {f1 f2 : Nat → Int32} {k j : Nat} (h : f2 k = nI j) (hj : j < 2 ^ 31) : f1 j = cmpO f1 f2 k := by
  unfold cmpO
  rw [if_neg (by rw [h]; exact z_nm1 hj), h, nI_clamp hj]

set_option maxHeartbeats 4000000 in
set_option maxRecDepth 100000 in
theorem c_J7_fill_53178 (l : Launch) (D : va_G) (cs : Nat → ClassId) (S0 : Nat) (ws : va_W) (b0 n : Nat) (f : Nat → Int32) (x9 : Int32) (hn : n < 2 ^ 31) : Met l yJ7_fill_53178 wsJ7_fill_53178 ({ frames := 0, cells := 0, slots := 0, locals := 0 }) (zP [.ref b0, .int x9] (fun H => Wd D S0 ((b0, fa cs n f) :: ws) H) D cs) (va_Qv (fun _ : Unit => True) (fun _ t => Wd D S0 ((b0, fa cs n (fun _ => x9)) :: ws) t.heap) (SA S0)) 0 0 (SA S0) := by
  refine Met.ofW (cc := cJ7_fill_53178) (maxL := 4) (ret := none) (by decide) rfl ?_
  intro p e s m args below meth c s₁ B hml hv
  obtain ⟨rfl, hW, hK⟩ := hv
  have hx := B.exec
  have hb := B.bytes
  have hr := B.returns
  have hts := atoms_spec (ws := wsJ7_fill_53178) B.pre
  have hown : s.vm.findClass RJ7 = some m.cls := findClass_of_methodNamed B.named
  have hlocks := B.notSynchronized
  have hRc : (headSpec wsJ7_fill_53178 ({ frames := 0, cells := 0, slots := 0, locals := 0 })).room.cells = 0 := rfl
  have hRs : (headSpec wsJ7_fill_53178 ({ frames := 0, cells := 0, slots := 0, locals := 0 })).room.slots = 0 := rfl
  have hW : Wd D S0 ((b0, fa cs n f) :: ws) s.heap := hW
  have hS0 : S0 ≤ s.heap.size := hW.2.2
  have hS : va_S (SA S0) s.heap s.heap [] := va_S.rf
  have hl := lv_entry ([.ref b0, .int x9]) (n := 4) (Nat.le_of_ble_eq_true rfl)
  rw [lg_entry_eq]
  generalize (lg_sl ([.ref b0, .int x9]) ++ List.replicate (4 - (lg_sl ([.ref b0, .int x9])).length) Slot.unset).toArray = ls at hl ⊢
  have hl : lv_has ls 4 [(0, .ref b0), (1, .int x9)] := hl
  refine lv_iconst (v := nI 0) hx hb dJ7_fill_53178_0 (by decide) ?_
  refine lv_istore_n (lv' := [(2, .int (nI 0)), (0, .ref b0), (1, .int x9)]) hx hb dJ7_fill_53178_1 rfl hl (by decide) rfl (fun ls hl => ?_)
  refine lv_aload_n hx hb dJ7_fill_53178_2 rfl (lv_at hl 1 rfl) ?_
  refine z_alen (n := n) hx hb hK (hW.1 0 _ rfl) dJ7_fill_53178_3 ?_
  refine lv_istore_n (lv' := [(3, .int (nI n)), (2, .int (nI 0)), (0, .ref b0), (1, .int x9)]) hx hb dJ7_fill_53178_4 rfl hl (by decide) rfl (fun ls hl => ?_)
  refine z_loopM (σ := Nat × (Nat → Int32)) (fun q9 => n - q9.1) (fun q9 ls H locs => lv_has ls 4 [(2, .int (nI q9.1)), (0, .ref b0), (1, .int x9), (3, .int (nI n))] ∧ Wd D S0 ((b0, fa cs n q9.2) :: ws) H ∧ va_S (SA S0) s.heap H locs ∧ (q9.1 ≤ n) ∧ (∀ i, i < q9.1 → q9.2 i = (fun _ => x9) i)) (0, f) ⟨lv_sub hl [1, 2, 3, 0] rfl, hW, hS, (show 0 ≤ n from by omega), (show ∀ i, i < 0 → f i = (fun _ => x9) i from fun i hi => absurd hi (Nat.not_lt_zero i))⟩ (fun dd5 ih5 y9 ls H locs hd9 hI9 => ?_)
  obtain ⟨k, g⟩ := y9
  have hd5 : n - k = dd5 := hd9
  have hI9 : lv_has ls 4 [(2, .int (nI k)), (0, .ref b0), (1, .int x9), (3, .int (nI n))] ∧ Wd D S0 ((b0, fa cs n g) :: ws) H ∧ va_S (SA S0) s.heap H locs ∧ (k ≤ n) ∧ (∀ i, i < k → g i = (fun _ => x9) i) := hI9
  obtain ⟨hl, hW, hS, hk, hg⟩ := hI9
  refine lv_iload_n hx hb dJ7_fill_53178_5 rfl (lv_at hl 0 rfl) ?_
  refine lv_iload_n hx hb dJ7_fill_53178_6 rfl (lv_at hl 3 rfl) ?_
  refine z_icmp_ge (tgt := 20) hx hb (by omega) (by omega) dJ7_fill_53178_7 (by decide) (fun hc7 => ?_) (fun hc7 => ?_)
  · skip
    have hc7 : n ≤ k := hc7
    have e9 : k = n := by omega
    rw [e9] at hl hg
    have hW := Wd.cong hg hW
    have hW : Wd D S0 ((b0, fa cs n (fun _ => x9)) :: ws) H := hW
    refine W.widen (k := 0) (n := 0) (by omega) (by omega) ?_
    exact W.vret hx hb hr (fun t ht hW9 => ⟨⟨(), rfl, trivial, (by show Wd D S0 _ _; rw [ht]; exact hW)⟩, hS.F ht⟩) (fun q9 h9 => hS.2.2 q9 h9) dJ7_fill_53178_20
  · skip
    have hc7 : k < n := hc7
    refine lv_aload_n hx hb dJ7_fill_53178_10 rfl (lv_at hl 1 rfl) ?_
    refine lv_iload_n hx hb dJ7_fill_53178_11 rfl (lv_at hl 0 rfl) ?_
    refine lv_iload_n hx hb dJ7_fill_53178_12 rfl (lv_at hl 2 rfl) ?_
    refine z_iast (k := k) (x := x9) (n := n) (f := g) hx hb hK hW hS 0 rfl (by omega) (by omega) dJ7_fill_53178_13 (fun H locs hW hS => ?_)
    have hW : Wd D S0 ((b0, fa cs n (upd g k x9)) :: ws) H := hW
    refine lv_iinc (v := nI (k + 1)) (lv' := [(2, .int (nI (k + 1))), (0, .ref b0), (1, .int x9), (3, .int (nI n))]) hx hb dJ7_fill_53178_14 hl (k := 0) rfl (z_inc _) (by decide) rfl (fun ls hl => ?_)
    refine lv_goto (tgt := 5) hx hb dJ7_fill_53178_17 (by decide) ?_
    exact ih5 ((k + 1), (upd g k x9)) ls H locs (show n - (k + 1) < dd5 by omega) ⟨lv_sub hl [0, 1, 2, 3] rfl, hW, hS, (show (k + 1) ≤ n from by omega), (show ∀ i, i < (k + 1) → (upd g k x9) i = (fun _ => x9) i from upd_ok hg rfl)⟩

set_option maxHeartbeats 4000000 in
set_option maxRecDepth 100000 in
theorem c_X2_originsThrough (l : Launch) (D : va_G) (cs : Nat → ClassId) (S0 : Nat) (ws : va_W) (b0 b1 n0 n1 : Nat) (f1 f2 : Nat → Int32) (hm0 : (b0, fa cs n0 f1) ∈ ws) (hm1 : (b1, fa cs n1 f2) ∈ ws) (hob : ∀ k, k < n1 → f2 k = (-1) ∨ ∃ j, j < n0 ∧ f2 k = nI j) (hn0 : n0 ≤ 400) (hn1 : n1 ≤ 400) : Met l yX2_originsThrough wsX2_originsThrough ({ frames := 0, cells := 1, slots := 400, locals := 0 }) (zP [.ref b0, .ref b1] (fun H => Wd D S0 ws H) D cs) (va_Qr (fun _ : Unit => True) (fun _ ra t => Wd D S0 ((ra, fa cs n1 (cmpO f1 f2)) :: ws) t.heap ∧ True) (SA S0)) 1 400 (SA S0) := by
  refine Met.ofW (cc := cX2_originsThrough) (maxL := 5) (ret := (some (.array .int))) (by decide) rfl ?_
  intro p e s m args below meth c s₁ B hml hv
  obtain ⟨rfl, hW, hK⟩ := hv
  have hx := B.exec
  have hb := B.bytes
  have hr := B.returns
  have hts := atoms_spec (ws := wsX2_originsThrough) B.pre
  have hown : s.vm.findClass RX2 = some m.cls := findClass_of_methodNamed B.named
  have hlocks := B.notSynchronized
  have hRc : (headSpec wsX2_originsThrough ({ frames := 0, cells := 1, slots := 400, locals := 0 })).room.cells = 1 := rfl
  have hRs : (headSpec wsX2_originsThrough ({ frames := 0, cells := 1, slots := 400, locals := 0 })).room.slots = 400 := rfl
  have hW : Wd D S0 ws s.heap := hW
  have hS0 : S0 ≤ s.heap.size := hW.2.2
  have hS : va_S (SA S0) s.heap s.heap [] := va_S.rf
  have hl := lv_entry ([.ref b0, .ref b1]) (n := 5) (Nat.le_of_ble_eq_true rfl)
  rw [lg_entry_eq]
  generalize (lg_sl ([.ref b0, .ref b1]) ++ List.replicate (5 - (lg_sl ([.ref b0, .ref b1])).length) Slot.unset).toArray = ls at hl ⊢
  have hl : lv_has ls 5 [(0, .ref b0), (1, .ref b1)] := hl
  refine lv_aload_n hx hb dX2_originsThrough_0 rfl (lv_at hl 1 rfl) ?_
  refine z_alen (n := n1) hx hb hK (hW.mem hm1) dX2_originsThrough_1 ?_
  refine z_newa (n := n1) hx hb (hts (.arrayClass .int) (by decide +kernel)) hK hW hS hS0 (by omega) (by rw [hRc]; omega) (by rw [hRs]; omega) dX2_originsThrough_2 (fun q2 H hW hS => ?_)
  have hW := Wd.mv (M := []) hW
  have hW : Wd D S0 ((q2, fa cs n1 (fun _ => 0)) :: ws) H := hW
  refine lv_astore_n (lv' := [(2, .ref q2), (0, .ref b0), (1, .ref b1)]) hx hb dX2_originsThrough_4 rfl hl (by decide) rfl (fun ls hl => ?_)
  refine lv_iconst (v := nI 0) hx hb dX2_originsThrough_5 (by decide) ?_
  refine lv_istore_n (lv' := [(3, .int (nI 0)), (2, .ref q2), (0, .ref b0), (1, .ref b1)]) hx hb dX2_originsThrough_6 rfl hl (by decide) rfl (fun ls hl => ?_)
  refine z_loopM (σ := Nat × (Nat → Int32)) (fun q9 => n1 - q9.1) (fun q9 ls H locs => lv_has ls 5 [(3, .int (nI q9.1)), (0, .ref b0), (1, .ref b1), (2, .ref q2)] ∧ Wd D S0 ((q2, fa cs n1 q9.2) :: ws) H ∧ va_S (SA S0) s.heap H locs ∧ (q9.1 ≤ n1) ∧ (∀ i, i < q9.1 → q9.2 i = cmpO f1 f2 i)) (0, (fun _ => 0)) ⟨lv_sub hl [0, 2, 3, 1] rfl, hW, hS, (show 0 ≤ n1 from by omega), (show ∀ i, i < 0 → (fun _ => 0) i = cmpO f1 f2 i from fun i hi => absurd hi (Nat.not_lt_zero i))⟩ (fun dd7 ih7 y9 ls H locs hd9 hI9 => ?_)
  obtain ⟨k, g⟩ := y9
  have hd7 : n1 - k = dd7 := hd9
  have hI9 : lv_has ls 5 [(3, .int (nI k)), (0, .ref b0), (1, .ref b1), (2, .ref q2)] ∧ Wd D S0 ((q2, fa cs n1 g) :: ws) H ∧ va_S (SA S0) s.heap H locs ∧ (k ≤ n1) ∧ (∀ i, i < k → g i = cmpO f1 f2 i) := hI9
  obtain ⟨hl, hW, hS, hk, hg⟩ := hI9
  refine lv_iload_n hx hb dX2_originsThrough_7 rfl (lv_at hl 0 rfl) ?_
  refine lv_aload_n hx hb dX2_originsThrough_8 rfl (lv_at hl 3 rfl) ?_
  refine z_alen (n := n1) hx hb hK (hW.1 0 _ rfl) dX2_originsThrough_9 ?_
  refine z_icmp_ge (tgt := 47) hx hb (by omega) (by omega) dX2_originsThrough_10 (by decide) (fun hc10 => ?_) (fun hc10 => ?_)
  · skip
    have hc10 : n1 ≤ k := hc10
    have e9 : k = n1 := by omega
    rw [e9] at hl hg
    have hW := Wd.cong hg hW
    have hW : Wd D S0 ((q2, fa cs n1 (cmpO f1 f2)) :: ws) H := hW
    refine lv_aload_n hx hb dX2_originsThrough_47 rfl (lv_at hl 3 rfl) ?_
    refine W.widen (k := 1) (n := 400) (by omega) (by omega) ?_
    exact W.aret (v := (.ref q2)) hx hb hr (by first | exact Or.inl ⟨_, rfl⟩ | exact Or.inr ⟨_, rfl⟩) (Or.inr ⟨_, rfl⟩) (fun t ht hW9 => ⟨⟨(), _, rfl, trivial, ⟨by show Wd D S0 _ _; rw [ht]; exact hW, trivial⟩⟩, hS.F ht⟩) (fun q9 h9 => hS.2.2 q9 h9) dX2_originsThrough_48
  · skip
    have hc10 : k < n1 := hc10
    refine lv_aload_n hx hb dX2_originsThrough_13 rfl (lv_at hl 2 rfl) ?_
    refine lv_iload_n hx hb dX2_originsThrough_14 rfl (lv_at hl 0 rfl) ?_
    refine z_iald (k := k) (f := f2) hx hb hK (hW.mem (List.mem_cons_of_mem _ hm1)) (by omega) (by omega) dX2_originsThrough_15 ?_
    refine lv_istore (lv' := [(4, .int (f2 k)), (3, .int (nI k)), (0, .ref b0), (1, .ref b1), (2, .ref q2)]) hx hb dX2_originsThrough_16 hl (by decide) rfl (fun ls hl => ?_)
    rcases hob k (by omega) with hz | ⟨j9, hj9, hz⟩
    · skip
      rw [hz] at hl
      have hl : lv_has ls 5 [(4, .int (-1 : Int32)), (3, .int (nI k)), (0, .ref b0), (1, .ref b1), (2, .ref q2)] := hl
      refine lv_aload_n hx hb dX2_originsThrough_18 rfl (lv_at hl 4 rfl) ?_
      refine lv_iload_n hx hb dX2_originsThrough_19 rfl (lv_at hl 1 rfl) ?_
      refine lv_iload hx hb dX2_originsThrough_20 (lv_at hl 0 rfl) ?_
      refine lv_if_lt (tgt := 39) hx hb dX2_originsThrough_22 (by decide) (fun hc22 => ?_) (fun hc22 => ?_)
      · skip
        have hc22 : (-1 : Int32) < 0 := hc22
        refine lv_iconst (v := (-1 : Int32)) hx hb dX2_originsThrough_39 (by decide) ?_
        refine z_iast (k := k) (x := (-1 : Int32)) (n := n1) (f := g) hx hb hK hW hS 0 rfl (by omega) (by omega) dX2_originsThrough_40 (fun H locs hW hS => ?_)
        have hW : Wd D S0 ((q2, fa cs n1 (upd g k (-1 : Int32))) :: ws) H := hW
        refine lv_iinc (v := nI (k + 1)) (lv' := [(3, .int (nI (k + 1))), (4, .int (-1 : Int32)), (0, .ref b0), (1, .ref b1), (2, .ref q2)]) hx hb dX2_originsThrough_41 hl (k := 1) rfl (z_inc _) (by decide) rfl (fun ls hl => ?_)
        refine lv_goto (tgt := 7) hx hb dX2_originsThrough_44 (by decide) ?_
        exact ih7 ((k + 1), (upd g k (-1 : Int32))) ls H locs (show n1 - (k + 1) < dd7 by omega) ⟨lv_sub hl [0, 2, 3, 4] rfl, hW, hS, (show (k + 1) ≤ n1 from by omega), (show ∀ i, i < (k + 1) → (upd g k (-1 : Int32)) i = cmpO f1 f2 i from upd_ok hg (cmp_l hz))⟩
      · skip
        have hc22 : ¬ (-1 : Int32) < 0 := hc22
        exact absurd (by decide) hc22
    · skip
      rw [hz] at hl
      have hl : lv_has ls 5 [(4, .int (nI j9)), (3, .int (nI k)), (0, .ref b0), (1, .ref b1), (2, .ref q2)] := hl
      refine lv_aload_n hx hb dX2_originsThrough_18 rfl (lv_at hl 4 rfl) ?_
      refine lv_iload_n hx hb dX2_originsThrough_19 rfl (lv_at hl 1 rfl) ?_
      refine lv_iload hx hb dX2_originsThrough_20 (lv_at hl 0 rfl) ?_
      refine z_ifn_lt (tgt := 39) hx hb (by omega) dX2_originsThrough_22 (by decide) ?_
      refine lv_iload hx hb dX2_originsThrough_25 (lv_at hl 0 rfl) ?_
      refine lv_aload_n hx hb dX2_originsThrough_27 rfl (lv_at hl 2 rfl) ?_
      refine z_alen (n := n0) hx hb hK (hW.mem (List.mem_cons_of_mem _ hm0)) dX2_originsThrough_28 ?_
      refine z_icmp_ge (tgt := 39) hx hb (by omega) (by omega) dX2_originsThrough_29 (by decide) (fun hc29 => ?_) (fun hc29 => ?_)
      · skip
        have hc29 : n0 ≤ j9 := hc29
        omega
      · skip
        have hc29 : j9 < n0 := hc29
        refine lv_aload_n hx hb dX2_originsThrough_32 rfl (lv_at hl 2 rfl) ?_
        refine lv_iload hx hb dX2_originsThrough_33 (lv_at hl 0 rfl) ?_
        refine z_iald (k := j9) (f := f1) hx hb hK (hW.mem (List.mem_cons_of_mem _ hm0)) (by omega) (by omega) dX2_originsThrough_35 ?_
        refine lv_goto (tgt := 40) hx hb dX2_originsThrough_36 (by decide) ?_
        refine z_iast (k := k) (x := f1 j9) (n := n1) (f := g) hx hb hK hW hS 0 rfl (by omega) (by omega) dX2_originsThrough_40 (fun H locs hW hS => ?_)
        have hW : Wd D S0 ((q2, fa cs n1 (upd g k (f1 j9))) :: ws) H := hW
        refine lv_iinc (v := nI (k + 1)) (lv' := [(3, .int (nI (k + 1))), (4, .int (nI j9)), (0, .ref b0), (1, .ref b1), (2, .ref q2)]) hx hb dX2_originsThrough_41 hl (k := 1) rfl (z_inc _) (by decide) rfl (fun ls hl => ?_)
        refine lv_goto (tgt := 7) hx hb dX2_originsThrough_44 (by decide) ?_
        exact ih7 ((k + 1), (upd g k (f1 j9))) ls H locs (show n1 - (k + 1) < dd7 by omega) ⟨lv_sub hl [0, 2, 3, 4] rfl, hW, hS, (show (k + 1) ≤ n1 from by omega), (show ∀ i, i < (k + 1) → (upd g k (f1 j9)) i = cmpO f1 f2 i from upd_ok hg (cmp_c hz (by omega)))⟩

set_option maxHeartbeats 4000000 in
set_option maxRecDepth 100000 in
theorem c_X2_originsByBlocks (l : Launch) (D : va_G) (cs : Nat → ClassId) (S0 : Nat) (ws : va_W) (h0 b0 h1 b1 n0 n1 size : Nat) (f g1 : Nat → Int32) (hr0 : (h0, .inr (2, [.ref b0])) ∈ ws) (ha0 : (b0, fa cs n0 f) ∈ ws) (hr1 : (h1, .inr (2, [.ref b1])) ∈ ws) (ha1 : (b1, fa cs n1 g1) ∈ ws) (hs : 2 ≤ size) (hsz : size ≤ 32) (hn0 : n0 ≤ 400) (hn1 : n1 ≤ 400) : Met l yX2_originsByBlocks wsX2_originsByBlocks ({ frames := 3, cells := 1, slots := 400, locals := 75 }) (zP [.ref h0, .ref h1, .int (nI size)] (fun H => Wd D S0 ws H) D cs) (va_Qr (fun _ : Unit => True) (fun _ ra t => Wd D S0 ((ra, fa cs n1 (difO (BT f n0 g1 n1 size) size)) :: ws) t.heap ∧ True) (SA S0)) 1 400 (SA S0) := by
  refine Met.ofW (cc := cX2_originsByBlocks) (maxL := 8) (ret := (some (.array .int))) (by decide) rfl ?_
  intro p e s m args below meth c s₁ B hml hv
  obtain ⟨rfl, hW, hK⟩ := hv
  have hx := B.exec
  have hb := B.bytes
  have hr := B.returns
  have hts := atoms_spec (ws := wsX2_originsByBlocks) B.pre
  have hown : s.vm.findClass RX2 = some m.cls := findClass_of_methodNamed B.named
  have hlocks := B.notSynchronized
  have hRc : (headSpec wsX2_originsByBlocks ({ frames := 3, cells := 1, slots := 400, locals := 75 })).room.cells = 1 := rfl
  have hRs : (headSpec wsX2_originsByBlocks ({ frames := 3, cells := 1, slots := 400, locals := 75 })).room.slots = 400 := rfl
  have fl72 := hts (.fieldLink RX2 72 "DeltaUpdater$Row" "bytes" "[I") (by decide +kernel)
  have in2 : ∀ w ∈ u_ws RX1 TX1 1, w ∈ wsX2_originsByBlocks := by decide +kernel
  have hW : Wd D S0 ws s.heap := hW
  have hS0 : S0 ≤ s.heap.size := hW.2.2
  have hS : va_S (SA S0) s.heap s.heap [] := va_S.rf
  have hl := lv_entry ([.ref h0, .ref h1, .int (nI size)]) (n := 8) (Nat.le_of_ble_eq_true rfl)
  rw [lg_entry_eq]
  generalize (lg_sl ([.ref h0, .ref h1, .int (nI size)]) ++ List.replicate (8 - (lg_sl ([.ref h0, .ref h1, .int (nI size)])).length) Slot.unset).toArray = ls at hl ⊢
  have hl : lv_has ls 8 [(0, .ref h0), (1, .ref h1), (2, .int (nI size))] := hl
  refine lv_aload_n hx hb dX2_originsByBlocks_0 rfl (lv_at hl 1 rfl) ?_
  refine z_get (ci := 2) (v := .ref b1) (C := RX1) (T := TX1) (N := 1) hx hb hts in2 hown hK (hW.mem hr1) rfl 0 (by decide) fl72 (fun _ h9 => h9) rfl dX2_originsByBlocks_1 ?_
  refine z_alen (n := n1) hx hb hK (hW.mem ha1) dX2_originsByBlocks_4 ?_
  refine z_newa (n := n1) hx hb (hts (.arrayClass .int) (by decide +kernel)) hK hW hS hS0 (by omega) (by rw [hRc]; omega) (by rw [hRs]; omega) dX2_originsByBlocks_5 (fun q5 H hW hS => ?_)
  have hW := Wd.mv (M := []) hW
  have hW : Wd D S0 ((q5, fa cs n1 (fun _ => 0)) :: ws) H := hW
  refine lv_astore_n (lv' := [(3, .ref q5), (0, .ref h0), (1, .ref h1), (2, .int (nI size))]) hx hb dX2_originsByBlocks_7 rfl hl (by decide) rfl (fun ls hl => ?_)
  refine lv_iconst (v := (-1 : Int32)) hx hb dX2_originsByBlocks_8 (by decide) ?_
  refine lv_istore (lv' := [(4, .int (-1 : Int32)), (3, .ref q5), (0, .ref h0), (1, .ref h1), (2, .int (nI size))]) hx hb dX2_originsByBlocks_9 hl (by decide) rfl (fun ls hl => ?_)
  refine lv_iconst (v := nI 0) hx hb dX2_originsByBlocks_11 (by decide) ?_
  refine lv_istore (lv' := [(5, .int (nI 0)), (4, .int (-1 : Int32)), (3, .ref q5), (0, .ref h0), (1, .ref h1), (2, .int (nI size))]) hx hb dX2_originsByBlocks_12 hl (by decide) rfl (fun ls hl => ?_)
  refine lv_iconst (v := nI 0) hx hb dX2_originsByBlocks_14 (by decide) ?_
  refine lv_istore (lv' := [(6, .int (nI 0)), (5, .int (nI 0)), (4, .int (-1 : Int32)), (3, .ref q5), (0, .ref h0), (1, .ref h1), (2, .int (nI size))]) hx hb dX2_originsByBlocks_15 hl (by decide) rfl (fun ls hl => ?_)
  refine z_loopM (σ := Nat × (Nat → Int32)) (fun q9 => n1 - q9.1) (fun q9 ls H locs => lv_has ls 8 [(6, .int (nI q9.1)), (4, .int (oI (stS (BT f n0 g1 n1 size) size q9.1).1)), (5, .int (nI ((stS (BT f n0 g1 n1 size) size q9.1).2))), (0, .ref h0), (1, .ref h1), (2, .int (nI size)), (3, .ref q5)] ∧ Wd D S0 ((q5, fa cs n1 q9.2) :: ws) H ∧ va_S (SA S0) s.heap H locs ∧ (q9.1 ≤ n1) ∧ (∀ i, i < q9.1 → q9.2 i = difO (BT f n0 g1 n1 size) size i)) (0, (fun _ => 0)) ⟨lv_sub hl [0, 2, 1, 4, 5, 6, 3] rfl, hW, hS, (show 0 ≤ n1 from by omega), (show ∀ i, i < 0 → (fun _ => 0) i = difO (BT f n0 g1 n1 size) size i from fun i hi => absurd hi (Nat.not_lt_zero i))⟩ (fun dd17 ih17 y9 ls H locs hd9 hI9 => ?_)
  obtain ⟨k, g⟩ := y9
  have hd17 : n1 - k = dd17 := hd9
  have hI9 : lv_has ls 8 [(6, .int (nI k)), (4, .int (oI (stS (BT f n0 g1 n1 size) size k).1)), (5, .int (nI ((stS (BT f n0 g1 n1 size) size k).2))), (0, .ref h0), (1, .ref h1), (2, .int (nI size)), (3, .ref q5)] ∧ Wd D S0 ((q5, fa cs n1 g) :: ws) H ∧ va_S (SA S0) s.heap H locs ∧ (k ≤ n1) ∧ (∀ i, i < k → g i = difO (BT f n0 g1 n1 size) size i) := hI9
  obtain ⟨hl, hW, hS, hk, hg⟩ := hI9
  obtain ⟨hs1, hs2, hs3⟩ := st_ok (B := BT f n0 g1 n1 size) (size := size) (N := n0 / size) (fun _ _ _ hb => btc_lt hb) k
  obtain ⟨last, hlast⟩ : ∃ z, z = (stS (BT f n0 g1 n1 size) size k).1 := ⟨_, rfl⟩
  obtain ⟨left, hleft⟩ : ∃ z, z = (stS (BT f n0 g1 n1 size) size k).2 := ⟨_, rfl⟩
  have hst : stS (BT f n0 g1 n1 size) size k = (last, left) := by rw [hlast, hleft]
  rw [← hlast, ← hleft] at hl
  rw [← hlast] at hs1 hs2
  rw [← hleft] at hs2 hs3
  have hdv := Nat.div_le_self n0 size
  refine lv_iload hx hb dX2_originsByBlocks_17 (lv_at hl 0 rfl) ?_
  refine lv_aload_n hx hb dX2_originsByBlocks_19 rfl (lv_at hl 6 rfl) ?_
  refine z_alen (n := n1) hx hb hK (hW.1 0 _ rfl) dX2_originsByBlocks_20 ?_
  refine z_icmp_ge (tgt := 89) hx hb (by omega) (by omega) dX2_originsByBlocks_21 (by decide) (fun hc21 => ?_) (fun hc21 => ?_)
  · skip
    have hc21 : n1 ≤ k := hc21
    have e9 : k = n1 := by omega
    rw [e9] at hg
    have hW := Wd.cong hg hW
    have hW : Wd D S0 ((q5, fa cs n1 (difO (BT f n0 g1 n1 size) size)) :: ws) H := hW
    refine lv_aload_n hx hb dX2_originsByBlocks_89 rfl (lv_at hl 6 rfl) ?_
    refine W.widen (k := 1) (n := 400) (by omega) (by omega) ?_
    exact W.aret (v := (.ref q5)) hx hb hr (by first | exact Or.inl ⟨_, rfl⟩ | exact Or.inr ⟨_, rfl⟩) (Or.inr ⟨_, rfl⟩) (fun t ht hW9 => ⟨⟨(), _, rfl, trivial, ⟨by show Wd D S0 _ _; rw [ht]; exact hW, trivial⟩⟩, hS.F ht⟩) (fun q9 h9 => hS.2.2 q9 h9) dX2_originsByBlocks_90
  · skip
    have hc21 : k < n1 := hc21
    refine lv_iload hx hb dX2_originsByBlocks_24 (lv_at hl 2 rfl) ?_
    refine z_ifn_ne (tgt := 54) hx hb (by omega) dX2_originsByBlocks_26 (by decide) (fun hc26 => ?_) (fun hc26 => ?_)
    · skip
      have hc26 : ¬ left = 0 := hc26
      have hl0 : ¬ left = 0 := hc26
      obtain ⟨b9, hb9⟩ : ∃ b, last = some b := hs2.resolve_left hl0
      rw [hb9] at hl hst
      have hmd := md_c hst hl0
      have hb8 := hs1 b9 hb9
      have hb9 := z_blk hb8
      have hb7 : (b9 + 1) * size = b9 * size + size := Nat.succ_mul b9 size
      have hl : lv_has ls 8 [(6, .int (nI k)), (4, .int (nI b9)), (5, .int (nI left)), (0, .ref h0), (1, .ref h1), (2, .int (nI size)), (3, .ref q5)] := hl
      refine lv_iload hx hb dX2_originsByBlocks_54 (lv_at hl 2 rfl) ?_
      refine z_ifn_ne (tgt := 67) hx hb (by omega) dX2_originsByBlocks_56 (by decide) (fun hc56 => ?_) (fun hc56 => ?_)
      · skip
        have hc56 : ¬ left = 0 := hc56
        refine lv_aload_n hx hb dX2_originsByBlocks_67 rfl (lv_at hl 6 rfl) ?_
        refine lv_iload hx hb dX2_originsByBlocks_68 (lv_at hl 0 rfl) ?_
        refine lv_iload hx hb dX2_originsByBlocks_70 (lv_at hl 1 rfl) ?_
        refine lv_iconst (v := nI 1) hx hb dX2_originsByBlocks_72 (by decide) ?_
        refine lv_iadd hx hb dX2_originsByBlocks_73 ?_
        refine zti (nI_add _ _) (y := nI (b9 + 1)) ?_
        refine lv_iload_n hx hb dX2_originsByBlocks_74 rfl (lv_at hl 5 rfl) ?_
        refine lv_imul hx hb dX2_originsByBlocks_75 ?_
        refine zti (pk_mul _ _) (y := nI ((b9 + 1) * size)) ?_
        refine lv_iload hx hb dX2_originsByBlocks_76 (lv_at hl 2 rfl) ?_
        refine lv_isub hx hb dX2_originsByBlocks_78 ?_
        refine zti (pk_sub (by omega)) (y := nI (((b9 + 1) * size) - left)) ?_
        refine z_iast (k := k) (x := nI (((b9 + 1) * size) - left)) (n := n1) (f := g) hx hb hK hW hS 0 rfl (by omega) (by omega) dX2_originsByBlocks_79 (fun H locs hW hS => ?_)
        have hW : Wd D S0 ((q5, fa cs n1 (upd g k (nI (((b9 + 1) * size) - left)))) :: ws) H := hW
        refine lv_iinc (v := nI (left - 1)) (lv' := [(5, .int (nI (left - 1))), (6, .int (nI k)), (4, .int (nI b9)), (0, .ref h0), (1, .ref h1), (2, .int (nI size)), (3, .ref q5)]) hx hb dX2_originsByBlocks_80 hl (k := 2) rfl (z_dec (by omega)) (by decide) rfl (fun ls hl => ?_)
        have hst2 := hmd.2
        have e1 : nI b9 = oI (stS (BT f n0 g1 n1 size) size (k + 1)).1 := by rw [hst2]; rfl
        have e2 : nI (left - 1) = nI (stS (BT f n0 g1 n1 size) size (k + 1)).2 := by rw [hst2]
        rw [e1, e2] at hl
        have hl : lv_has ls 8 [(5, .int (nI ((stS (BT f n0 g1 n1 size) size (k + 1)).2))), (6, .int (nI k)), (4, .int (oI (stS (BT f n0 g1 n1 size) size (k + 1)).1)), (0, .ref h0), (1, .ref h1), (2, .int (nI size)), (3, .ref q5)] := hl
        refine lv_iinc (v := nI (k + 1)) (lv' := [(6, .int (nI (k + 1))), (5, .int (nI ((stS (BT f n0 g1 n1 size) size (k + 1)).2))), (4, .int (oI (stS (BT f n0 g1 n1 size) size (k + 1)).1)), (0, .ref h0), (1, .ref h1), (2, .int (nI size)), (3, .ref q5)]) hx hb dX2_originsByBlocks_83 hl (k := 1) rfl (z_inc _) (by decide) rfl (fun ls hl => ?_)
        refine lv_goto (tgt := 17) hx hb dX2_originsByBlocks_86 (by decide) ?_
        exact ih17 ((k + 1), (upd g k (nI (((b9 + 1) * size) - left)))) ls H locs (show n1 - (k + 1) < dd17 by omega) ⟨lv_sub hl [0, 2, 1, 3, 4, 5, 6] rfl, hW, hS, (show (k + 1) ≤ n1 from by omega), (show ∀ i, i < (k + 1) → (upd g k (nI (((b9 + 1) * size) - left))) i = difO (BT f n0 g1 n1 size) size i from upd_ok hg hmd.1.symm)⟩
      · skip
        have hc56 : left = 0 := hc56
        omega
    · skip
      have hc26 : left = 0 := hc26
      refine lv_aload_n hx hb dX2_originsByBlocks_29 rfl (lv_at hl 3 rfl) ?_
      refine lv_aload_n hx hb dX2_originsByBlocks_30 rfl (lv_at hl 4 rfl) ?_
      refine lv_iload hx hb dX2_originsByBlocks_31 (lv_at hl 0 rfl) ?_
      refine lv_iload_n hx hb dX2_originsByBlocks_33 rfl (lv_at hl 5 rfl) ?_
      refine lv_iload hx hb dX2_originsByBlocks_34 (lv_at hl 1 rfl) ?_
      have hl0 : left = 0 := hc26
      rw [hl0] at hl hst
      have hl : lv_has ls 8 [(6, .int (nI k)), (4, .int (oI last)), (5, .int (nI 0)), (0, .ref h0), (1, .ref h1), (2, .int (nI size)), (3, .ref q5)] := hl
      refine z_csS (As := [.ref h0, .ref h1, .int (nI k), .int (nI size), .int (oI last)]) (rest := []) ⟨hx, hb, hml, hown, hts⟩ (c_X2_blockToCopy l D cs h0 b0 h1 b1 n0 n1 f g1 k size last (fun q hq => by have := hs1 q hq; omega) hs hsz (by omega) (by omega) (by omega)) (va_cwS 5 hts gX2_originsByBlocks_X2_blockToCopy rfl rfl rfl (by decide +kernel) ⟨Nat.le_of_ble_eq_true rfl, Nat.le_of_ble_eq_true rfl⟩) ⟨(hW.mem (List.mem_cons_of_mem _ hr0)), (hW.mem (List.mem_cons_of_mem _ ha0)), (hW.mem (List.mem_cons_of_mem _ hr1)), (hW.mem (List.mem_cons_of_mem _ ha1))⟩ hK rfl hl.1 rfl (Nat.le_of_ble_eq_true rfl) dX2_originsByBlocks_36 ⟨(by rw [hRc]; omega), (by rw [hRs]; omega)⟩ (fun r hq9 => ?_)
      have hq9 : r = oI (btc f n0 g1 n1 k size last) := hq9
      subst hq9
      rcases hB : btc f n0 g1 n1 k size last with _ | b9
      · skip
        refine zti (y := (-1 : Int32)) rfl ?_
        have hmd := md_l hst hB
        refine lv_istore (lv' := [(7, .int (-1 : Int32)), (6, .int (nI k)), (4, .int (oI last)), (5, .int (nI 0)), (0, .ref h0), (1, .ref h1), (2, .int (nI size)), (3, .ref q5)]) hx hb dX2_originsByBlocks_39 hl (by decide) rfl (fun ls hl => ?_)
        refine lv_iload hx hb dX2_originsByBlocks_41 (lv_at hl 0 rfl) ?_
        refine lv_iconst (v := (-1 : Int32)) hx hb dX2_originsByBlocks_43 (by decide) ?_
        refine lv_icmp_eq (tgt := 54) hx hb dX2_originsByBlocks_44 (by decide) (fun hc44 => ?_) (fun hc44 => ?_)
        · skip
          have hc44 : (-1 : Int32) = (-1 : Int32) := hc44
          refine lv_iload hx hb dX2_originsByBlocks_54 (lv_at hl 3 rfl) ?_
          refine lv_if_ne (tgt := 67) hx hb dX2_originsByBlocks_56 (by decide) (fun h9 => absurd h9 (by decide)) (fun _ => ?_)
          refine lv_aload_n hx hb dX2_originsByBlocks_59 rfl (lv_at hl 7 rfl) ?_
          refine lv_iload hx hb dX2_originsByBlocks_60 (lv_at hl 1 rfl) ?_
          refine lv_iconst (v := (-1 : Int32)) hx hb dX2_originsByBlocks_62 (by decide) ?_
          refine z_iast (k := k) (x := (-1 : Int32)) (n := n1) (f := g) hx hb hK hW hS 0 rfl (by omega) (by omega) dX2_originsByBlocks_63 (fun H locs hW hS => ?_)
          have hW : Wd D S0 ((q5, fa cs n1 (upd g k (-1 : Int32))) :: ws) H := hW
          refine lv_goto (tgt := 83) hx hb dX2_originsByBlocks_64 (by decide) ?_
          have hst2 := hmd.2
          have hl := lv_sub hl (l' := [(6, .int (nI k)), (4, .int (oI last)), (5, .int (nI 0)), (0, .ref h0), (1, .ref h1), (2, .int (nI size)), (3, .ref q5)]) [1, 2, 3, 4, 5, 6, 7] rfl
          have e1 : oI last = oI (stS (BT f n0 g1 n1 size) size (k + 1)).1 := by rw [hst2]
          have e2 : nI 0 = nI (stS (BT f n0 g1 n1 size) size (k + 1)).2 := by rw [hst2]
          rw [e1, e2] at hl
          have hl : lv_has ls 8 [(6, .int (nI k)), (4, .int (oI (stS (BT f n0 g1 n1 size) size (k + 1)).1)), (5, .int (nI ((stS (BT f n0 g1 n1 size) size (k + 1)).2))), (0, .ref h0), (1, .ref h1), (2, .int (nI size)), (3, .ref q5)] := hl
          refine lv_iinc (v := nI (k + 1)) (lv' := [(6, .int (nI (k + 1))), (4, .int (oI (stS (BT f n0 g1 n1 size) size (k + 1)).1)), (5, .int (nI ((stS (BT f n0 g1 n1 size) size (k + 1)).2))), (0, .ref h0), (1, .ref h1), (2, .int (nI size)), (3, .ref q5)]) hx hb dX2_originsByBlocks_83 hl (k := 0) rfl (z_inc _) (by decide) rfl (fun ls hl => ?_)
          refine lv_goto (tgt := 17) hx hb dX2_originsByBlocks_86 (by decide) ?_
          exact ih17 ((k + 1), (upd g k (-1 : Int32))) ls H locs (show n1 - (k + 1) < dd17 by omega) ⟨lv_sub hl [0, 1, 2, 3, 4, 5, 6] rfl, hW, hS, (show (k + 1) ≤ n1 from by omega), (show ∀ i, i < (k + 1) → (upd g k (-1 : Int32)) i = difO (BT f n0 g1 n1 size) size i from upd_ok hg hmd.1.symm)⟩
        · skip
          have hc44 : ¬ (-1 : Int32) = (-1 : Int32) := hc44
          exact absurd rfl hc44
      · skip
        refine zti (y := nI b9) rfl ?_
        have hmd := md_b (by omega) hst hB
        have hb8 := btc_lt hB
        have hb9 := z_blk hb8
        have hb7 := Nat.succ_mul b9 size
        have hb7 : (b9 + 1) * size = b9 * size + size := hb7
        refine lv_istore (lv' := [(7, .int (nI b9)), (6, .int (nI k)), (4, .int (oI last)), (5, .int (nI 0)), (0, .ref h0), (1, .ref h1), (2, .int (nI size)), (3, .ref q5)]) hx hb dX2_originsByBlocks_39 hl (by decide) rfl (fun ls hl => ?_)
        refine lv_iload hx hb dX2_originsByBlocks_41 (lv_at hl 0 rfl) ?_
        refine lv_iconst (v := (-1 : Int32)) hx hb dX2_originsByBlocks_43 (by decide) ?_
        refine lv_icmp_eq (tgt := 54) hx hb dX2_originsByBlocks_44 (by decide) (fun hc44 => ?_) (fun hc44 => ?_)
        · skip
          have hc44 : (nI b9) = (-1 : Int32) := hc44
          exact absurd hc44 (z_nm1 (by omega))
        · skip
          have hc44 : ¬ (nI b9) = (-1 : Int32) := hc44
          refine lv_iload hx hb dX2_originsByBlocks_47 (lv_at hl 0 rfl) ?_
          refine lv_istore (lv' := [(4, .int (nI b9)), (7, .int (nI b9)), (6, .int (nI k)), (5, .int (nI 0)), (0, .ref h0), (1, .ref h1), (2, .int (nI size)), (3, .ref q5)]) hx hb dX2_originsByBlocks_49 hl (by decide) rfl (fun ls hl => ?_)
          refine lv_iload_n hx hb dX2_originsByBlocks_51 rfl (lv_at hl 6 rfl) ?_
          refine lv_istore (lv' := [(5, .int (nI size)), (4, .int (nI b9)), (7, .int (nI b9)), (6, .int (nI k)), (0, .ref h0), (1, .ref h1), (2, .int (nI size)), (3, .ref q5)]) hx hb dX2_originsByBlocks_52 hl (by decide) rfl (fun ls hl => ?_)
          refine lv_iload hx hb dX2_originsByBlocks_54 (lv_at hl 0 rfl) ?_
          refine z_ifn_ne (tgt := 67) hx hb (by omega) dX2_originsByBlocks_56 (by decide) (fun hc56 => ?_) (fun hc56 => ?_)
          · skip
            have hc56 : ¬ size = 0 := hc56
            refine lv_aload_n hx hb dX2_originsByBlocks_67 rfl (lv_at hl 7 rfl) ?_
            refine lv_iload hx hb dX2_originsByBlocks_68 (lv_at hl 3 rfl) ?_
            refine lv_iload hx hb dX2_originsByBlocks_70 (lv_at hl 1 rfl) ?_
            refine lv_iconst (v := nI 1) hx hb dX2_originsByBlocks_72 (by decide) ?_
            refine lv_iadd hx hb dX2_originsByBlocks_73 ?_
            refine zti (nI_add _ _) (y := nI (b9 + 1)) ?_
            refine lv_iload_n hx hb dX2_originsByBlocks_74 rfl (lv_at hl 6 rfl) ?_
            refine lv_imul hx hb dX2_originsByBlocks_75 ?_
            refine zti (pk_mul _ _) (y := nI ((b9 + 1) * size)) ?_
            refine lv_iload hx hb dX2_originsByBlocks_76 (lv_at hl 0 rfl) ?_
            refine lv_isub hx hb dX2_originsByBlocks_78 ?_
            refine zti (pk_sub (by omega)) (y := nI (((b9 + 1) * size) - size)) ?_
            refine z_iast (k := k) (x := nI (((b9 + 1) * size) - size)) (n := n1) (f := g) hx hb hK hW hS 0 rfl (by omega) (by omega) dX2_originsByBlocks_79 (fun H locs hW hS => ?_)
            have hW : Wd D S0 ((q5, fa cs n1 (upd g k (nI (((b9 + 1) * size) - size)))) :: ws) H := hW
            refine lv_iinc (v := nI (size - 1)) (lv' := [(5, .int (nI (size - 1))), (4, .int (nI b9)), (7, .int (nI b9)), (6, .int (nI k)), (0, .ref h0), (1, .ref h1), (2, .int (nI size)), (3, .ref q5)]) hx hb dX2_originsByBlocks_80 hl (k := 0) rfl (z_dec (by omega)) (by decide) rfl (fun ls hl => ?_)
            have hst2 := hmd.2
            have hl := lv_sub hl (l' := [(5, .int (nI (size - 1))), (4, .int (nI b9)), (6, .int (nI k)), (0, .ref h0), (1, .ref h1), (2, .int (nI size)), (3, .ref q5)]) [0, 1, 3, 4, 5, 6, 7] rfl
            have e1 : nI b9 = oI (stS (BT f n0 g1 n1 size) size (k + 1)).1 := by rw [hst2]; rfl
            have e2 : nI (size - 1) = nI (stS (BT f n0 g1 n1 size) size (k + 1)).2 := by rw [hst2]
            rw [e1, e2] at hl
            have hl : lv_has ls 8 [(5, .int (nI ((stS (BT f n0 g1 n1 size) size (k + 1)).2))), (4, .int (oI (stS (BT f n0 g1 n1 size) size (k + 1)).1)), (6, .int (nI k)), (0, .ref h0), (1, .ref h1), (2, .int (nI size)), (3, .ref q5)] := hl
            refine lv_iinc (v := nI (k + 1)) (lv' := [(6, .int (nI (k + 1))), (5, .int (nI ((stS (BT f n0 g1 n1 size) size (k + 1)).2))), (4, .int (oI (stS (BT f n0 g1 n1 size) size (k + 1)).1)), (0, .ref h0), (1, .ref h1), (2, .int (nI size)), (3, .ref q5)]) hx hb dX2_originsByBlocks_83 hl (k := 2) rfl (z_inc _) (by decide) rfl (fun ls hl => ?_)
            refine lv_goto (tgt := 17) hx hb dX2_originsByBlocks_86 (by decide) ?_
            exact ih17 ((k + 1), (upd g k (nI (((b9 + 1) * size) - size)))) ls H locs (show n1 - (k + 1) < dd17 by omega) ⟨lv_sub hl [0, 2, 1, 3, 4, 5, 6] rfl, hW, hS, (show (k + 1) ≤ n1 from by omega), (show ∀ i, i < (k + 1) → (upd g k (nI (((b9 + 1) * size) - size))) i = difO (BT f n0 g1 n1 size) size i from upd_ok hg hmd.1.symm)⟩
          · skip
            have hc56 : size = 0 := hc56
            omega

