/-! the helper and the model answer alike -/
theorem costN_le {o : Nat → Int32} {n : Nat} (h : n ≤ 400) : costN o n ≤ 2400 := by
  have h1 : litN o n ≤ n := ct_le _ _
  have h2 := sm_bound (f := fun k => if stA o k = true then wt o k else 0) (c := 5) (n := n) (fun k _ => by
    unfold wt
    split
    · split <;> decide
    · decide)
  unfold costN
  omega
theorem eqL_sym {xs ys : BL} (hx : rowOk xs) (hy : rowOk ys) : eqL xs ys = eqL ys xs := by
  rw [Bool.eq_iff_iff, eqL_iff hx hy, eqL_iff hy hx]
  exact eq_comm
theorem z_sbn : ∀ b, b ≤ 32 → ∀ a, a < b → nI a - nI b < 0 := by decide +kernel
theorem z_clW (w : Int32) {len n : Nat} (hl : len ≤ 400) (hn : n ≤ 32) : (∃ k, k + n ≤ len ∧ w = nI k) ∨ (w < 0 ∨ nI len - nI n < w) := by
  by_cases h : w < 0
  · exact Or.inr (Or.inl h)
  · obtain ⟨j, hj, rfl⟩ := nI_of h
    by_cases g : j + n ≤ len
    · exact Or.inl ⟨j, g, rfl⟩
    · refine Or.inr (Or.inr ?_)
      by_cases q : n ≤ len
      · rw [pk_sub q]; exact nI_lt (by omega) hj
      · exact Int32.lt_of_lt_of_le (z_sbn n hn len (by omega)) (nI_pos' hj)
theorem cmp_iff {cs : Nat → ClassId} {ea : Nat} {u : XU} {σ : St} {Y : va_W} (hF : XF cs ea u σ Y) {j k : Nat} (hj : j < σ.2.2.1.length) (hk : k < σ.2.2.1.length) : xP u 6 j = xP u 5 k ↔ eqL (psN σ.2.2.1 j).2.1 (psN σ.2.2.1 k).1 = true := by
  have f1 := (hF.2.2.2.2.2.1 j hj).2.2
  have f2 := (hF.2.2.2.2.2.1 k hk).2.1
  have hok := hF.2.2.2.2.2.2.2.2
  rw [eqL_iff (hok.2.2.1.2 j hj).2.1 (hok.2.2.1.2 k hk).1]
  exact ⟨fun e => f1.2.1.symm.trans (e ▸ f2.2.1), fun e => (e ▸ f1 : FI σ.2.1 (xP u 6 j) (psN σ.2.2.1 k).1).one f2⟩
def BO (l : Launch) (sg : St) (yL : MethodName) (wsL : List Cond) (hA : Nat → Nat → List Value) (y3 : MethodName) (ws3 : List Cond) (mB : Nat → List Value) : Prop :=
  ∃ (k : Nat) (R : Int32) (τ : St), k ≤ 3 ∧ (∀ (D : va_G) (cs : Nat → ClassId) (S0 ea mi : Nat) (sa : Nat → Nat) (Y : va_W) (a : Nat → Nat) (u : XU) (ol : Nat) (f : Nat → Int64), XF cs ea u sg Y → hOK l D cs S0 ea mi sa Y a u sg ol f yL wsL (hA (a 0) ol) k R.toInt64 τ) ∧
    (∀ (D : va_G) (cs : Nat → ClassId) (S0 : Nat) (Z : va_W) (b : Nat → Nat) (w : MU) (th : Int32), MF cs w sg Z → mOK l D cs S0 Z b w th sg y3 ws3 (mB (b 0)) k R τ)
def BB (l : Launch) (sg : St) (yL : MethodName) (wsL : List Cond) (hA : Nat → Nat → List Value) (y3 : MethodName) (ws3 : List Cond) (mB : Nat → List Value) : Prop :=
  ∃ (k : Nat) (cb : Bool) (τ : St), k ≤ 3 ∧ (∀ (D : va_G) (cs : Nat → ClassId) (S0 ea mi : Nat) (sa : Nat → Nat) (Y : va_W) (a : Nat → Nat) (u : XU) (ol : Nat) (f : Nat → Int64), XF cs ea u sg Y → hOK l D cs S0 ea mi sa Y a u sg ol f yL wsL (hA (a 0) ol) k (if cb = true then 1 else 0) τ) ∧
    (∀ (D : va_G) (cs : Nat → ClassId) (S0 : Nat) (Z : va_W) (b : Nat → Nat) (w : MU) (th : Int32), MF cs w sg Z → mOK l D cs S0 Z b w th sg y3 ws3 (mB (b 0)) k (bI cb) τ)
def BD (l : Launch) (sg : St) (yL : MethodName) (wsL : List Cond) (hA : Nat → Nat → List Value) (y3 : MethodName) (ws3 : List Cond) (mB : Nat → List Value) : Prop :=
  ∃ (k : Nat) (R : UInt64) (τ : St), k ≤ 3 ∧ (∀ (D : va_G) (cs : Nat → ClassId) (S0 ea mi : Nat) (sa : Nat → Nat) (Y : va_W) (a : Nat → Nat) (u : XU) (ol : Nat) (f : Nat → UInt64), XF cs ea u sg Y → hOKd l D cs S0 ea mi sa Y a u sg ol f yL wsL (hA (a 0) ol) k R τ) ∧
    (∀ (D : va_G) (cs : Nat → ClassId) (S0 : Nat) (Z : va_W) (b : Nat → Nat) (w : MU) (th : Int32), MF cs w sg Z → mOKd l D cs S0 Z b w th sg y3 ws3 (mB (b 0)) k R τ)
theorem m_cons {q : Nat × va_E} {Y : va_W} : ∀ q9 ∈ Y, q9 ∈ q :: Y := fun _ h9 => List.mem_cons_of_mem _ h9

theorem mOKd_of {l : Launch} {D : va_G} {cs : Nat → ClassId} {S0 : Nat} {Z : va_W} {b : Nat → Nat} {w : MU} {th : Int32} {sg : St} {y : MethodName} {ws : List Cond} {As : List Value} {k : Nat} {R : UInt64} {τ : St} {rm : Room} (h : Met l y ws rm (zM As (fun H => Wd D S0 (MW cs b w th sg Z) H) D cs) (va_Qd (fun r (v : MU × va_W) => (k = 0 → r = R) ∧ MF cs v.1 τ (v.2 ++ Z)) (fun v t => Wd D S0 (MW cs b v.1 (nI k) τ (v.2 ++ Z)) t.heap) (SA S0)) rm.cells rm.slots (SA S0)) (hr : rm.frames ≤ 4 ∧ rm.locals ≤ 100 ∧ rm.cells ≤ 1 ∧ rm.slots ≤ 400) : mOKd l D cs S0 Z b w th sg y ws As k R τ :=
  z_metF h hr ⟨hr.2.2.1, hr.2.2.2⟩ (fun _ h9 => h9) (fun _ _ h9 => h9) (fun _ _ _ _ _ hq => hq)

set_option maxHeartbeats 4000000 in
set_option maxRecDepth 100000 in
theorem bo_feed (l : Launch) (hl9 : l.stackTraces = false) (sg : St) (hok : stOk sg) (p0 : Int64) (p1 : Int32) : BO l sg yL_feed wsL_feed (fun x ol => [.ref x, .long p0, .int p1, .ref ol]) yX3_feed wsX3_feed (fun x => [.ref x, .long p0, .int p1]) := by
  have hnv := hok.2.1.1
  have hnp := hok.2.2.1.1
  rcases z_clB p1 1 8 (by decide) (by decide) with ⟨n9, h1, h2, rfl⟩ | hz
  · rcases Nat.lt_or_ge 400 (sg.1.length + n9) with h3 | h3
    · exact ⟨2, (nI 0), sg, by decide, fun D cs S0 ea mi sa Y a u ol f hF => h_feed_IS l D cs S0 ea mi sa Y a u sg hF ol f (p0) (nI n9) _ (z_vT (t_X2_feed_b l hl9 D cs S0 ea mi sa a u sg p0 n9 h1 h2 h3) ⟨by decide, by decide, by decide, by decide⟩ (fun _ _ h9 => h9)), fun D cs S0 Z b w th hF => mOK_of (c_X3_feed_b l D cs S0 Z b w sg hF th p0 n9 h1 h2 h3) ⟨by decide, by decide, by decide, by decide⟩⟩
    · exact ⟨0, (nI (sg.1.length + n9)), (stB0 sg (sg.1 ++ fdL p0 n9)), by decide, fun D cs S0 ea mi sa Y a u ol f hF => h_feed_ok l D cs S0 ea mi sa Y a u sg hF ol f (p0) (nI n9) (nI (sg.1.length + n9)) (stB0 sg (sg.1 ++ fdL p0 n9)) (z_metF (c_X2_feedW l D cs S0 ea ((ol, la cs f) :: Y) a u sg (hF.more m_cons) n9 p0 h1 h2 h3) ⟨by decide, by decide, by decide, by decide⟩ ⟨by decide, by decide⟩ (fun _ h9 => h9) (fun _ _ h9 => ⟨h9.1, h9.2.1, h9.2.2.1⟩) (fun _ _ _ _ _ h9 => h9)), fun D cs S0 Z b w th hF => mOK_of (c_X3_feed l D cs S0 Z b w sg hF th p0 n9 h1 h2 h3) ⟨by decide, by decide, by decide, by decide⟩⟩
  · exact ⟨1, (nI 0), sg, by decide, fun D cs S0 ea mi sa Y a u ol f hF => h_feed_IA l D cs S0 ea mi sa Y a u sg hF ol f (p0) (p1) _ (z_vT (t_X2_feed_a l hl9 D cs S0 ea mi sa a u sg p0 p1 hz) ⟨by decide, by decide, by decide, by decide⟩ (fun _ _ h9 => h9)), fun D cs S0 Z b w th hF => mOK_of (c_X3_feed_a l D cs S0 Z b w sg hF th p0 p1 (inB_no hz)) ⟨by decide, by decide, by decide, by decide⟩⟩

set_option maxHeartbeats 4000000 in
set_option maxRecDepth 100000 in
theorem bo_store (l : Launch) (hl9 : l.stackTraces = false) (sg : St) (hok : stOk sg)  : BO l sg yL_store wsL_store (fun x ol => [.ref x, .ref ol]) yX3_store wsX3_store (fun x => [.ref x]) := by
  have hnv := hok.2.1.1
  have hnp := hok.2.2.1.1
  rcases Nat.lt_or_ge sg.2.1.length 12 with h3 | h3
  · exact ⟨0, (nI sg.2.1.length), (stB0 (stV sg sg.1) []), by decide, fun D cs S0 ea mi sa Y a u ol f hF => h_store_ok l D cs S0 ea mi sa Y a u sg hF ol f  (nI sg.2.1.length) (stB0 (stV sg sg.1) []) (xOK_wr (c_X2_store l D cs S0 ea mi sa ((ol, la cs f) :: Y) a u sg (hF.more m_cons) h3) ⟨by decide, by decide, by decide, by decide⟩), fun D cs S0 Z b w th hF => mOK_of (c_X3_store l D cs S0 Z b w sg hF th h3) ⟨by decide, by decide, by decide, by decide⟩⟩
  · exact ⟨1, (nI 0), sg, by decide, fun D cs S0 ea mi sa Y a u ol f hF => h_store_IS l D cs S0 ea mi sa Y a u sg hF ol f  _ (z_vT (t_X2_store l hl9 D cs S0 ea mi sa a u sg h3) ⟨by decide, by decide, by decide, by decide⟩ (fun _ _ h9 => h9)), fun D cs S0 Z b w th hF => mOK_of (c_X3_store_a l D cs S0 Z b w sg hF th h3) ⟨by decide, by decide, by decide, by decide⟩⟩

set_option maxHeartbeats 4000000 in
set_option maxRecDepth 100000 in
theorem bo_length (l : Launch) (hl9 : l.stackTraces = false) (sg : St) (hok : stOk sg) (p0 : Int32) : BO l sg yL_length wsL_length (fun x ol => [.ref x, .int p0, .ref ol]) yX3_length wsX3_length (fun x => [.ref x, .int p0]) := by
  have hnv := hok.2.1.1
  have hnp := hok.2.2.1.1
  rcases z_cl p0 (show sg.2.1.length < 2 ^ 31 by omega) with ⟨v9, hv9, rfl⟩ | hv
  · exact ⟨0, (nI (vsN sg.2.1 v9).length), sg, by decide, fun D cs S0 ea mi sa Y a u ol f hF => h_length_ok l D cs S0 ea mi sa Y a u sg hF ol f (nI v9) (nI (vsN sg.2.1 v9).length) sg (xOK_rd (hF.more m_cons) (c_X2_length l D cs S0 ea mi sa a u sg v9 hv9) ⟨by decide, by decide, by decide, by decide⟩), fun D cs S0 Z b w th hF => mOK_of (c_X3_length l D cs S0 Z b w sg hF th v9 hv9) ⟨by decide, by decide, by decide, by decide⟩⟩
  · exact ⟨1, (nI 0), sg, by decide, fun D cs S0 ea mi sa Y a u ol f hF => h_length_IO l D cs S0 ea mi sa Y a u sg hF ol f (p0) _ (z_vT (t_X2_length_a l hl9 D cs S0 ea mi sa a u sg p0 hv) ⟨by decide, by decide, by decide, by decide⟩ (fun _ _ h9 => h9)), fun D cs S0 Z b w th hF => mOK_of (c_X3_length_a l D cs S0 Z b w sg hF th p0 (vI_no hv (by omega))) ⟨by decide, by decide, by decide, by decide⟩⟩

set_option maxHeartbeats 4000000 in
set_option maxRecDepth 100000 in
theorem bo_byteAt (l : Launch) (hl9 : l.stackTraces = false) (sg : St) (hok : stOk sg) (p0 : Int32) (p1 : Int32) : BO l sg yL_byteAt wsL_byteAt (fun x ol => [.ref x, .int p0, .int p1, .ref ol]) yX3_byteAt wsX3_byteAt (fun x => [.ref x, .int p0, .int p1]) := by
  have hnv := hok.2.1.1
  have hnp := hok.2.2.1.1
  rcases z_cl p0 (show sg.2.1.length < 2 ^ 31 by omega) with ⟨v9, hv9, rfl⟩ | hv
  · have hln := (hok.2.1.2 v9 hv9).1
    rcases z_cl p1 (show (vsN sg.2.1 v9).length < 2 ^ 31 by omega) with ⟨k9, hk9, rfl⟩ | hw
    · exact ⟨0, (nI (bv (vsN sg.2.1 v9) k9)), sg, by decide, fun D cs S0 ea mi sa Y a u ol f hF => h_byteAt_ok l D cs S0 ea mi sa Y a u sg hF ol f (nI v9) (nI k9) (nI (bv (vsN sg.2.1 v9) k9)) sg (xOK_rd (hF.more m_cons) (c_X2_byteAt l D cs S0 ea mi sa a u sg v9 k9 hv9 hk9) ⟨by decide, by decide, by decide, by decide⟩), fun D cs S0 Z b w th hF => mOK_of (c_X3_byteAt l D cs S0 Z b w sg hF th v9 hv9 k9 hk9) ⟨by decide, by decide, by decide, by decide⟩⟩
    · exact ⟨1, (nI 0), sg, by decide, fun D cs S0 ea mi sa Y a u ol f hF => h_byteAt_IO l D cs S0 ea mi sa Y a u sg hF ol f (nI v9) (p1) _ (z_vT (t_X2_byteAt_b l hl9 D cs S0 ea mi sa a u sg v9 hv9 p1 hw) ⟨by decide, by decide, by decide, by decide⟩ (fun _ _ h9 => h9)), fun D cs S0 Z b w th hF => mOK_of (c_X3_byteAt_b l D cs S0 Z b w sg hF th v9 hv9 p1 ((inB_vI _ _).trans (vI_no hw (by omega)))) ⟨by decide, by decide, by decide, by decide⟩⟩
  · exact ⟨1, (nI 0), sg, by decide, fun D cs S0 ea mi sa Y a u ol f hF => h_byteAt_IO l D cs S0 ea mi sa Y a u sg hF ol f (p0) (p1) _ (z_vT (t_X2_byteAt_a l hl9 D cs S0 ea mi sa a u sg p0 hv p1) ⟨by decide, by decide, by decide, by decide⟩ (fun _ _ h9 => h9)), fun D cs S0 Z b w th hF => mOK_of (c_X3_byteAt_a l D cs S0 Z b w sg hF th p0 (vI_no hv (by omega)) p1) ⟨by decide, by decide, by decide, by decide⟩⟩

set_option maxHeartbeats 4000000 in
set_option maxRecDepth 100000 in
theorem bo_areSame (l : Launch) (hl9 : l.stackTraces = false) (sg : St) (hok : stOk sg) (p0 : Int32) (p1 : Int32) : BB l sg yL_areSame wsL_areSame (fun x ol => [.ref x, .int p0, .int p1, .ref ol]) yX3_areSame wsX3_areSame (fun x => [.ref x, .int p0, .int p1]) := by
  have hnv := hok.2.1.1
  have hnp := hok.2.2.1.1
  rcases z_cl p0 (show sg.2.1.length < 2 ^ 31 by omega) with ⟨v9, hv9, rfl⟩ | hv
  · rcases z_cl p1 (show sg.2.1.length < 2 ^ 31 by omega) with ⟨w9, hw9, rfl⟩ | hw
    · exact ⟨0, (eqL (vsN sg.2.1 v9) (vsN sg.2.1 w9)), sg, by decide, fun D cs S0 ea mi sa Y a u ol f hF => h_areSame_ok l D cs S0 ea mi sa Y a u sg hF ol f (nI v9) (nI w9) (eqL (vsN sg.2.1 v9) (vsN sg.2.1 w9)) sg (xOK_rd (hF.more m_cons) (c_X2_areSame l D cs S0 ea mi sa a u sg v9 w9 hv9 hw9) ⟨by decide, by decide, by decide, by decide⟩), fun D cs S0 Z b w th hF => mOK_of (c_X3_areSame l D cs S0 Z b w sg hF th v9 hv9 w9 hw9) ⟨by decide, by decide, by decide, by decide⟩⟩
    · exact ⟨1, false, sg, by decide, fun D cs S0 ea mi sa Y a u ol f hF => h_areSame_IO l D cs S0 ea mi sa Y a u sg hF ol f (nI v9) (p1) _ (z_vT (t_X2_areSame_b l hl9 D cs S0 ea mi sa a u sg v9 hv9 p1 hw) ⟨by decide, by decide, by decide, by decide⟩ (fun _ _ h9 => h9)), fun D cs S0 Z b w th hF => mOK_of (c_X3_areSame_b l D cs S0 Z b w sg hF th v9 hv9 p1 (vI_no hw (by omega))) ⟨by decide, by decide, by decide, by decide⟩⟩
  · exact ⟨1, false, sg, by decide, fun D cs S0 ea mi sa Y a u ol f hF => h_areSame_IO l D cs S0 ea mi sa Y a u sg hF ol f (p0) (p1) _ (z_vT (t_X2_areSame_a l hl9 D cs S0 ea mi sa a u sg p0 hv p1) ⟨by decide, by decide, by decide, by decide⟩ (fun _ _ h9 => h9)), fun D cs S0 Z b w th hF => mOK_of (c_X3_areSame_a l D cs S0 Z b w sg hF th p0 (vI_no hv (by omega)) p1) ⟨by decide, by decide, by decide, by decide⟩⟩

set_option maxHeartbeats 4000000 in
set_option maxRecDepth 100000 in
theorem bo_isInstalled (l : Launch) (hl9 : l.stackTraces = false) (sg : St) (hok : stOk sg) (p0 : Int32) : BB l sg yL_isInstalled wsL_isInstalled (fun x ol => [.ref x, .int p0, .ref ol]) yX3_isInstalled wsX3_isInstalled (fun x => [.ref x, .int p0]) := by
  have hnv := hok.2.1.1
  have hnp := hok.2.2.1.1
  rcases z_cl p0 (show sg.2.1.length < 2 ^ 31 by omega) with ⟨v9, hv9, rfl⟩ | hv
  · exact ⟨0, (eqL sg.2.2.2.1 (vsN sg.2.1 v9)), sg, by decide, fun D cs S0 ea mi sa Y a u ol f hF => h_isInstalled_ok l D cs S0 ea mi sa Y a u sg hF ol f (nI v9) (eqL sg.2.2.2.1 (vsN sg.2.1 v9)) sg (xOK_rd (R := bI (eqL sg.2.2.2.1 (vsN sg.2.1 v9))) (hF.more m_cons) (by rw [eqL_sym hok.2.2.2.1 (hok.2.1.2 v9 hv9)]; exact c_X2_isInstalled l D cs S0 ea mi sa a u sg v9 hv9) ⟨by decide, by decide, by decide, by decide⟩), fun D cs S0 Z b w th hF => mOK_of (c_X3_isInstalled l D cs S0 Z b w sg hF th v9 hv9) ⟨by decide, by decide, by decide, by decide⟩⟩
  · exact ⟨1, false, sg, by decide, fun D cs S0 ea mi sa Y a u ol f hF => h_isInstalled_IO l D cs S0 ea mi sa Y a u sg hF ol f (p0) _ (z_vT (t_X2_isInstalled_a l hl9 D cs S0 ea mi sa a u sg p0 hv) ⟨by decide, by decide, by decide, by decide⟩ (fun _ _ h9 => h9)), fun D cs S0 Z b w th hF => mOK_of (c_X3_isInstalled_a l D cs S0 Z b w sg hF th p0 (vI_no hv (by omega))) ⟨by decide, by decide, by decide, by decide⟩⟩

set_option maxHeartbeats 4000000 in
set_option maxRecDepth 100000 in
theorem bo_weakSum (l : Launch) (hl9 : l.stackTraces = false) (sg : St) (hok : stOk sg) (p0 : Int32) (p1 : Int32) (p2 : Int32) : BO l sg yL_weakSum wsL_weakSum (fun x ol => [.ref x, .int p0, .int p1, .int p2, .ref ol]) yX3_weakSum wsX3_weakSum (fun x => [.ref x, .int p0, .int p1, .int p2]) := by
  have hnv := hok.2.1.1
  have hnp := hok.2.2.1.1
  rcases z_cl p0 (show sg.2.1.length < 2 ^ 31 by omega) with ⟨v9, hv9, rfl⟩ | hv
  · have hln := (hok.2.1.2 v9 hv9).1
    rcases z_clB p2 1 32 (by decide) (by decide) with ⟨n9, hn1, hn2, rfl⟩ | hz
    · rcases z_clW p1 hln hn2 with ⟨k9, hk9, rfl⟩ | hw
      · exact ⟨0, (nI (wsum (bv (vsN sg.2.1 v9)) k9 n9)), sg, by decide, fun D cs S0 ea mi sa Y a u ol f hF => h_weakSum_ok l D cs S0 ea mi sa Y a u sg hF ol f (nI v9) (nI k9) (nI n9) (nI (wsum (bv (vsN sg.2.1 v9)) k9 n9)) sg (xOK_rd (hF.more m_cons) (c_X2_weakSum l D cs S0 ea mi sa a u sg v9 k9 n9 hv9 hn1 hn2 hk9) ⟨by decide, by decide, by decide, by decide⟩), fun D cs S0 Z b w th hF => mOK_of (c_X3_weakSum l D cs S0 Z b w sg hF th v9 hv9 n9 hn1 hn2 k9 hk9) ⟨by decide, by decide, by decide, by decide⟩⟩
      · exact ⟨2, (nI 0), sg, by decide, fun D cs S0 ea mi sa Y a u ol f hF => h_weakSum_IA l D cs S0 ea mi sa Y a u sg hF ol f (nI v9) (p1) (nI n9) _ (z_vT (t_X2_weakSum_c l hl9 D cs S0 ea mi sa a u sg v9 hv9 n9 hn1 hn2 p1 hw) ⟨by decide, by decide, by decide, by decide⟩ (fun _ _ h9 => h9)), fun D cs S0 Z b w th hF => mOK_of (c_X3_weakSum_c l D cs S0 Z b w sg hF th v9 hv9 n9 hn1 hn2 p1 hw) ⟨by decide, by decide, by decide, by decide⟩⟩
    · exact ⟨2, (nI 0), sg, by decide, fun D cs S0 ea mi sa Y a u ol f hF => h_weakSum_IA l D cs S0 ea mi sa Y a u sg hF ol f (nI v9) (p1) (p2) _ (z_vT (t_X2_weakSum_b l hl9 D cs S0 ea mi sa a u sg v9 hv9 p1 p2 hz) ⟨by decide, by decide, by decide, by decide⟩ (fun _ _ h9 => h9)), fun D cs S0 Z b w th hF => mOK_of (c_X3_weakSum_b l D cs S0 Z b w sg hF th v9 hv9 p1 p2 (inB_no hz)) ⟨by decide, by decide, by decide, by decide⟩⟩
  · exact ⟨1, (nI 0), sg, by decide, fun D cs S0 ea mi sa Y a u ol f hF => h_weakSum_IO l D cs S0 ea mi sa Y a u sg hF ol f (p0) (p1) (p2) _ (z_vT (t_X2_weakSum_a l hl9 D cs S0 ea mi sa a u sg p0 hv p1 p2) ⟨by decide, by decide, by decide, by decide⟩ (fun _ _ h9 => h9)), fun D cs S0 Z b w th hF => mOK_of (c_X3_weakSum_a l D cs S0 Z b w sg hF th p0 (vI_no hv (by omega)) p1 p2) ⟨by decide, by decide, by decide, by decide⟩⟩

set_option maxHeartbeats 4000000 in
set_option maxRecDepth 100000 in
theorem bo_collisions (l : Launch) (hl9 : l.stackTraces = false) (sg : St) (hok : stOk sg) (p0 : Int32) (p1 : Int32) : BO l sg yL_collisions wsL_collisions (fun x ol => [.ref x, .int p0, .int p1, .ref ol]) yX3_collisions wsX3_collisions (fun x => [.ref x, .int p0, .int p1]) := by
  have hnv := hok.2.1.1
  have hnp := hok.2.2.1.1
  rcases z_cl p0 (show sg.2.1.length < 2 ^ 31 by omega) with ⟨v9, hv9, rfl⟩ | hv
  · rcases z_clB p1 2 32 (by decide) (by decide) with ⟨size, h2, h3, rfl⟩ | hz
    · exact ⟨0, (nI (colN (vsN sg.2.1 v9) size ((vsN sg.2.1 v9).length / size))), sg, by decide, fun D cs S0 ea mi sa Y a u ol f hF => h_collisions_ok l D cs S0 ea mi sa Y a u sg hF ol f (nI v9) (nI size) (nI (colN (vsN sg.2.1 v9) size ((vsN sg.2.1 v9).length / size))) sg (xOK_un (U := fun v => xuF u 1 v) (fun _ => (hF.more m_cons).sums) (c_X2_collisions l D cs S0 ea mi sa ((ol, la cs f) :: Y) a u sg (hF.more m_cons) v9 size hv9 h2 h3) ⟨by decide, by decide, by decide, by decide⟩), fun D cs S0 Z b w th hF => mOK_of (c_X3_collisions l D cs S0 Z b w sg hF th v9 hv9 size h2 h3) ⟨by decide, by decide, by decide, by decide⟩⟩
    · exact ⟨2, (nI 0), sg, by decide, fun D cs S0 ea mi sa Y a u ol f hF => h_collisions_IA l D cs S0 ea mi sa Y a u sg hF ol f (nI v9) (p1) _ (z_vT (t_X2_collisions_b l hl9 D cs S0 ea mi sa a u sg v9 hv9 p1 hz) ⟨by decide, by decide, by decide, by decide⟩ (fun _ _ h9 => h9)), fun D cs S0 Z b w th hF => mOK_of (c_X3_collisions_b l D cs S0 Z b w sg hF th v9 hv9 p1 (inB_no hz)) ⟨by decide, by decide, by decide, by decide⟩⟩
  · exact ⟨1, (nI 0), sg, by decide, fun D cs S0 ea mi sa Y a u ol f hF => h_collisions_IO l D cs S0 ea mi sa Y a u sg hF ol f (p0) (p1) _ (z_vT (t_X2_collisions_a l hl9 D cs S0 ea mi sa a u sg p0 hv p1) ⟨by decide, by decide, by decide, by decide⟩ (fun _ _ h9 => h9)), fun D cs S0 Z b w th hF => mOK_of (c_X3_collisions_a l D cs S0 Z b w sg hF th p0 (vI_no hv (by omega)) p1) ⟨by decide, by decide, by decide, by decide⟩⟩

set_option maxHeartbeats 4000000 in
set_option maxRecDepth 100000 in
theorem bo_differentBlocks (l : Launch) (hl9 : l.stackTraces = false) (sg : St) (hok : stOk sg) (p0 : Int32) (p1 : Int32) : BO l sg yL_differentBlocks wsL_differentBlocks (fun x ol => [.ref x, .int p0, .int p1, .ref ol]) yX3_differentBlocks wsX3_differentBlocks (fun x => [.ref x, .int p0, .int p1]) := by
  have hnv := hok.2.1.1
  have hnp := hok.2.2.1.1
  rcases z_cl p0 (show sg.2.1.length < 2 ^ 31 by omega) with ⟨v9, hv9, rfl⟩ | hv
  · rcases z_clB p1 2 32 (by decide) (by decide) with ⟨size, h2, h3, rfl⟩ | hz
    · exact ⟨0, (nI (dbN (bb (vsN sg.2.1 v9)) (vsN sg.2.1 v9).length size)), sg, by decide, fun D cs S0 ea mi sa Y a u ol f hF => h_differentBlocks_ok l D cs S0 ea mi sa Y a u sg hF ol f (nI v9) (nI size) (nI (dbN (bb (vsN sg.2.1 v9)) (vsN sg.2.1 v9).length size)) sg (xOK_rd (hF.more m_cons) (c_X2_differentBlocks l D cs S0 ea mi sa a u sg v9 size hv9 h2 h3) ⟨by decide, by decide, by decide, by decide⟩), fun D cs S0 Z b w th hF => mOK_of (c_X3_differentBlocks l D cs S0 Z b w sg hF th v9 hv9 size h2 h3) ⟨by decide, by decide, by decide, by decide⟩⟩
    · exact ⟨2, (nI 0), sg, by decide, fun D cs S0 ea mi sa Y a u ol f hF => h_differentBlocks_IA l D cs S0 ea mi sa Y a u sg hF ol f (nI v9) (p1) _ (z_vT (t_X2_differentBlocks_b l hl9 D cs S0 ea mi sa a u sg v9 hv9 p1 hz) ⟨by decide, by decide, by decide, by decide⟩ (fun _ _ h9 => h9)), fun D cs S0 Z b w th hF => mOK_of (c_X3_differentBlocks_b l D cs S0 Z b w sg hF th v9 hv9 p1 (inB_no hz)) ⟨by decide, by decide, by decide, by decide⟩⟩
  · exact ⟨1, (nI 0), sg, by decide, fun D cs S0 ea mi sa Y a u ol f hF => h_differentBlocks_IO l D cs S0 ea mi sa Y a u sg hF ol f (p0) (p1) _ (z_vT (t_X2_differentBlocks_a l hl9 D cs S0 ea mi sa a u sg p0 hv p1) ⟨by decide, by decide, by decide, by decide⟩ (fun _ _ h9 => h9)), fun D cs S0 Z b w th hF => mOK_of (c_X3_differentBlocks_a l D cs S0 Z b w sg hF th p0 (vI_no hv (by omega)) p1) ⟨by decide, by decide, by decide, by decide⟩⟩

set_option maxHeartbeats 4000000 in
set_option maxRecDepth 100000 in
theorem bo_difference (l : Launch) (hl9 : l.stackTraces = false) (sg : St) (hok : stOk sg) (p0 : Int32) (p1 : Int32) (p2 : Int32) : BO l sg yL_difference wsL_difference (fun x ol => [.ref x, .int p0, .int p1, .int p2, .ref ol]) yX3_difference wsX3_difference (fun x => [.ref x, .int p0, .int p1, .int p2]) := by
  have hnv := hok.2.1.1
  have hnp := hok.2.2.1.1
  rcases z_cl p0 (show sg.2.1.length < 2 ^ 31 by omega) with ⟨v9, hv9, rfl⟩ | hv
  · rcases z_cl p1 (show sg.2.1.length < 2 ^ 31 by omega) with ⟨w9, hw9, rfl⟩ | hw
    · rcases z_clB p2 2 32 (by decide) (by decide) with ⟨size, h2, h3, rfl⟩ | hz
      · rcases Nat.lt_or_ge sg.2.2.1.length 12 with h4 | h4
        · exact ⟨0, (nI sg.2.2.1.length), (stP sg (((vsN sg.2.1 v9), (vsN sg.2.1 w9), ((List.range (vsN sg.2.1 w9).length).map (difO (BT (bb (vsN sg.2.1 v9)) (vsN sg.2.1 v9).length (bb (vsN sg.2.1 w9)) (vsN sg.2.1 w9).length size) size))) : Pt)), by decide, fun D cs S0 ea mi sa Y a u ol f hF => h_difference_ok l D cs S0 ea mi sa Y a u sg hF ol f (nI v9) (nI w9) (nI size) (nI sg.2.2.1.length) (stP sg (((vsN sg.2.1 v9), (vsN sg.2.1 w9), ((List.range (vsN sg.2.1 w9).length).map (difO (BT (bb (vsN sg.2.1 v9)) (vsN sg.2.1 v9).length (bb (vsN sg.2.1 w9)) (vsN sg.2.1 w9).length size) size))) : Pt)) (xOK_wr (c_X2_difference l D cs S0 ea mi sa ((ol, la cs f) :: Y) a u sg (hF.more m_cons) v9 w9 size hv9 hw9 h2 h3 h4) ⟨by decide, by decide, by decide, by decide⟩), fun D cs S0 Z b w th hF => mOK_of (c_X3_difference l D cs S0 Z b w sg hF th v9 hv9 w9 hw9 size h2 h3 h4) ⟨by decide, by decide, by decide, by decide⟩⟩
        · exact ⟨3, (nI 0), sg, by decide, fun D cs S0 ea mi sa Y a u ol f hF => h_difference_IS l D cs S0 ea mi sa Y a u sg hF ol f (nI v9) (nI w9) (nI size) _ (z_vT (t_X2_difference_d l hl9 D cs S0 ea mi sa a u sg v9 hv9 w9 hw9 size h2 h3 h4) ⟨by decide, by decide, by decide, by decide⟩ (fun _ _ h9 => h9)), fun D cs S0 Z b w th hF => mOK_of (c_X3_difference_d l D cs S0 Z b w sg hF th v9 hv9 w9 hw9 size h2 h3 h4) ⟨by decide, by decide, by decide, by decide⟩⟩
      · exact ⟨2, (nI 0), sg, by decide, fun D cs S0 ea mi sa Y a u ol f hF => h_difference_IA l D cs S0 ea mi sa Y a u sg hF ol f (nI v9) (nI w9) (p2) _ (z_vT (t_X2_difference_c l hl9 D cs S0 ea mi sa a u sg v9 hv9 w9 hw9 p2 hz) ⟨by decide, by decide, by decide, by decide⟩ (fun _ _ h9 => h9)), fun D cs S0 Z b w th hF => mOK_of (c_X3_difference_c l D cs S0 Z b w sg hF th v9 hv9 w9 hw9 p2 (inB_no hz)) ⟨by decide, by decide, by decide, by decide⟩⟩
    · exact ⟨1, (nI 0), sg, by decide, fun D cs S0 ea mi sa Y a u ol f hF => h_difference_IO l D cs S0 ea mi sa Y a u sg hF ol f (nI v9) (p1) (p2) _ (z_vT (t_X2_difference_b l hl9 D cs S0 ea mi sa a u sg v9 hv9 p1 hw p2) ⟨by decide, by decide, by decide, by decide⟩ (fun _ _ h9 => h9)), fun D cs S0 Z b w th hF => mOK_of (c_X3_difference_b l D cs S0 Z b w sg hF th v9 hv9 p1 (vI_no hw (by omega)) p2) ⟨by decide, by decide, by decide, by decide⟩⟩
  · exact ⟨1, (nI 0), sg, by decide, fun D cs S0 ea mi sa Y a u ol f hF => h_difference_IO l D cs S0 ea mi sa Y a u sg hF ol f (p0) (p1) (p2) _ (z_vT (t_X2_difference_a l hl9 D cs S0 ea mi sa a u sg p0 hv p1 p2) ⟨by decide, by decide, by decide, by decide⟩ (fun _ _ h9 => h9)), fun D cs S0 Z b w th hF => mOK_of (c_X3_difference_a l D cs S0 Z b w sg hF th p0 (vI_no hv (by omega)) p1 p2) ⟨by decide, by decide, by decide, by decide⟩⟩

set_option maxHeartbeats 4000000 in
set_option maxRecDepth 100000 in
theorem bo_compose (l : Launch) (hl9 : l.stackTraces = false) (sg : St) (hok : stOk sg) (p0 : Int32) (p1 : Int32) : BO l sg yL_compose wsL_compose (fun x ol => [.ref x, .int p0, .int p1, .ref ol]) yX3_compose wsX3_compose (fun x => [.ref x, .int p0, .int p1]) := by
  have hnv := hok.2.1.1
  have hnp := hok.2.2.1.1
  rcases z_cl p0 (show sg.2.2.1.length < 2 ^ 31 by omega) with ⟨j9, hj, rfl⟩ | hv
  · rcases z_cl p1 (show sg.2.2.1.length < 2 ^ 31 by omega) with ⟨k9, hk, rfl⟩ | hw
    · cases he : eqL (psN sg.2.2.1 j9).2.1 (psN sg.2.2.1 k9).1
      · exact ⟨2, (nI 0), sg, by decide, fun D cs S0 ea mi sa Y a u ol f hF => h_compose_IA l D cs S0 ea mi sa Y a u sg hF ol f (nI j9) (nI k9) _ (z_vT (t_X2_compose_c l hl9 D cs S0 ea mi sa a u sg j9 hj k9 hk (fun e9 => by rw [(cmp_iff hF hj hk).mp e9] at he; cases he)) ⟨by decide, by decide, by decide, by decide⟩ (fun _ _ h9 => h9)), fun D cs S0 Z b w th hF => mOK_of (c_X3_compose_c l D cs S0 Z b w sg hF th j9 hj k9 hk he) ⟨by decide, by decide, by decide, by decide⟩⟩
      · rcases Nat.lt_or_ge sg.2.2.1.length 12 with h4 | h4
        · exact ⟨0, (nI sg.2.2.1.length), (stP sg (((psN sg.2.2.1 j9).1, (psN sg.2.2.1 k9).2.1, ((List.range (psN sg.2.2.1 k9).2.1.length).map (cmpO (rf (psN sg.2.2.1 j9).2.2) (rf (psN sg.2.2.1 k9).2.2)))) : Pt)), by decide, fun D cs S0 ea mi sa Y a u ol f hF => h_compose_ok l D cs S0 ea mi sa Y a u sg hF ol f (nI j9) (nI k9) (nI sg.2.2.1.length) (stP sg (((psN sg.2.2.1 j9).1, (psN sg.2.2.1 k9).2.1, ((List.range (psN sg.2.2.1 k9).2.1.length).map (cmpO (rf (psN sg.2.2.1 j9).2.2) (rf (psN sg.2.2.1 k9).2.2)))) : Pt)) (xOK_wr (c_X2_compose l D cs S0 ea mi sa ((ol, la cs f) :: Y) a u sg (hF.more m_cons) j9 k9 hj hk ((cmp_iff hF hj hk).mpr he) h4) ⟨by decide, by decide, by decide, by decide⟩), fun D cs S0 Z b w th hF => mOK_of (c_X3_compose l D cs S0 Z b w sg hF th j9 hj k9 hk he h4) ⟨by decide, by decide, by decide, by decide⟩⟩
        · exact ⟨3, (nI 0), sg, by decide, fun D cs S0 ea mi sa Y a u ol f hF => h_compose_IS l D cs S0 ea mi sa Y a u sg hF ol f (nI j9) (nI k9) _ (z_vT (t_X2_compose_d l hl9 D cs S0 ea mi sa a u sg j9 hj k9 hk ((cmp_iff hF hj hk).mpr he) h4) ⟨by decide, by decide, by decide, by decide⟩ (fun _ _ h9 => h9)), fun D cs S0 Z b w th hF => mOK_of (c_X3_compose_d l D cs S0 Z b w sg hF th j9 hj k9 hk he h4) ⟨by decide, by decide, by decide, by decide⟩⟩
    · exact ⟨1, (nI 0), sg, by decide, fun D cs S0 ea mi sa Y a u ol f hF => h_compose_IO l D cs S0 ea mi sa Y a u sg hF ol f (nI j9) (p1) _ (z_vT (t_X2_compose_b l hl9 D cs S0 ea mi sa a u sg j9 hj p1 hw) ⟨by decide, by decide, by decide, by decide⟩ (fun _ _ h9 => h9)), fun D cs S0 Z b w th hF => mOK_of (c_X3_compose_b l D cs S0 Z b w sg hF th j9 hj p1 (vI_no hw (by omega))) ⟨by decide, by decide, by decide, by decide⟩⟩
  · exact ⟨1, (nI 0), sg, by decide, fun D cs S0 ea mi sa Y a u ol f hF => h_compose_IO l D cs S0 ea mi sa Y a u sg hF ol f (p0) (p1) _ (z_vT (t_X2_compose_a l hl9 D cs S0 ea mi sa a u sg p0 hv p1) ⟨by decide, by decide, by decide, by decide⟩ (fun _ _ h9 => h9)), fun D cs S0 Z b w th hF => mOK_of (c_X3_compose_a l D cs S0 Z b w sg hF th p0 (vI_no hv (by omega)) p1) ⟨by decide, by decide, by decide, by decide⟩⟩

set_option maxHeartbeats 4000000 in
set_option maxRecDepth 100000 in
theorem bo_instructions (l : Launch) (hl9 : l.stackTraces = false) (sg : St) (hok : stOk sg) (p0 : Int32) : BO l sg yL_instructions wsL_instructions (fun x ol => [.ref x, .int p0, .ref ol]) yX3_instructions wsX3_instructions (fun x => [.ref x, .int p0]) := by
  have hnv := hok.2.1.1
  have hnp := hok.2.2.1.1
  rcases z_cl p0 (show sg.2.2.1.length < 2 ^ 31 by omega) with ⟨j9, hj, rfl⟩ | hv
  · exact ⟨0, (nI (manyN (rf (psN sg.2.2.1 j9).2.2) (psN sg.2.2.1 j9).2.1.length)), sg, by decide, fun D cs S0 ea mi sa Y a u ol f hF => h_instructions_ok l D cs S0 ea mi sa Y a u sg hF ol f (nI j9) (nI (manyN (rf (psN sg.2.2.1 j9).2.2) (psN sg.2.2.1 j9).2.1.length)) sg (xOK_rd (hF.more m_cons) (c_X2_instructions l D cs S0 ea mi sa a u sg j9 hj) ⟨by decide, by decide, by decide, by decide⟩), fun D cs S0 Z b w th hF => mOK_of (c_X3_instructions l D cs S0 Z b w sg hF th j9 hj) ⟨by decide, by decide, by decide, by decide⟩⟩
  · exact ⟨1, (nI 0), sg, by decide, fun D cs S0 ea mi sa Y a u ol f hF => h_instructions_IO l D cs S0 ea mi sa Y a u sg hF ol f (p0) _ (z_vT (t_X2_instructions_a l hl9 D cs S0 ea mi sa a u sg p0 hv) ⟨by decide, by decide, by decide, by decide⟩ (fun _ _ h9 => h9)), fun D cs S0 Z b w th hF => mOK_of (c_X3_instructions_a l D cs S0 Z b w sg hF th p0 (vI_no hv (by omega))) ⟨by decide, by decide, by decide, by decide⟩⟩

set_option maxHeartbeats 4000000 in
set_option maxRecDepth 100000 in
theorem bo_cost (l : Launch) (hl9 : l.stackTraces = false) (sg : St) (hok : stOk sg) (p0 : Int32) : BO l sg yL_cost wsL_cost (fun x ol => [.ref x, .int p0, .ref ol]) yX3_cost wsX3_cost (fun x => [.ref x, .int p0]) := by
  have hnv := hok.2.1.1
  have hnp := hok.2.2.1.1
  rcases z_cl p0 (show sg.2.2.1.length < 2 ^ 31 by omega) with ⟨j9, hj, rfl⟩ | hv
  · exact ⟨0, (nI (costN (rf (psN sg.2.2.1 j9).2.2) (psN sg.2.2.1 j9).2.1.length)), sg, by decide, fun D cs S0 ea mi sa Y a u ol f hF => h_cost_ok l D cs S0 ea mi sa Y a u sg hF ol f (nI j9) (nI (costN (rf (psN sg.2.2.1 j9).2.2) (psN sg.2.2.1 j9).2.1.length)) sg (xOK_rd (hF.more m_cons) (c_X2_cost l D cs S0 ea mi sa a u sg j9 hj) ⟨by decide, by decide, by decide, by decide⟩), fun D cs S0 Z b w th hF => mOK_of (c_X3_cost l D cs S0 Z b w sg hF th j9 hj) ⟨by decide, by decide, by decide, by decide⟩⟩
  · exact ⟨1, (nI 0), sg, by decide, fun D cs S0 ea mi sa Y a u ol f hF => h_cost_IO l D cs S0 ea mi sa Y a u sg hF ol f (p0) _ (z_vT (t_X2_cost_a l hl9 D cs S0 ea mi sa a u sg p0 hv) ⟨by decide, by decide, by decide, by decide⟩ (fun _ _ h9 => h9)), fun D cs S0 Z b w th hF => mOK_of (c_X3_cost_a l D cs S0 Z b w sg hF th p0 (vI_no hv (by omega))) ⟨by decide, by decide, by decide, by decide⟩⟩

set_option maxHeartbeats 4000000 in
set_option maxRecDepth 100000 in
theorem bo_newness (l : Launch) (hl9 : l.stackTraces = false) (sg : St) (hok : stOk sg) (p0 : Int32) : BD l sg yL_newness wsL_newness (fun x ol => [.ref x, .int p0, .ref ol]) yX3_newness wsX3_newness (fun x => [.ref x, .int p0]) := by
  have hnv := hok.2.1.1
  have hnp := hok.2.2.1.1
  rcases z_cl p0 (show sg.2.2.1.length < 2 ^ 31 by omega) with ⟨j9, hj, rfl⟩ | hv
  · exact ⟨0, (nwD (litN (rf (psN sg.2.2.1 j9).2.2) (psN sg.2.2.1 j9).2.1.length) (psN sg.2.2.1 j9).2.1.length), sg, by decide, fun D cs S0 ea mi sa Y a u ol f hF => h_newness_ok l D cs S0 ea mi sa Y a u sg hF ol f (nI j9) (nwD (litN (rf (psN sg.2.2.1 j9).2.2) (psN sg.2.2.1 j9).2.1.length) (psN sg.2.2.1 j9).2.1.length) sg (xOKd_rd (hF.more m_cons) (c_X2_newness l D cs S0 ea mi sa a u sg j9 hj) ⟨by decide, by decide, by decide, by decide⟩), fun D cs S0 Z b w th hF => mOKd_of (c_X3_newness l D cs S0 Z b w sg hF th j9 hj) ⟨by decide, by decide, by decide, by decide⟩⟩
  · exact ⟨1, FP.dconst0, sg, by decide, fun D cs S0 ea mi sa Y a u ol f hF => h_newness_IO l D cs S0 ea mi sa Y a u sg hF ol f (p0) _ (z_vT (t_X2_newness_a l hl9 D cs S0 ea mi sa a u sg p0 hv) ⟨by decide, by decide, by decide, by decide⟩ (fun _ _ h9 => h9)), fun D cs S0 Z b w th hF => mOKd_of (c_X3_newness_a l D cs S0 Z b w sg hF th p0 (vI_no hv (by omega))) ⟨by decide, by decide, by decide, by decide⟩⟩

set_option maxHeartbeats 4000000 in
set_option maxRecDepth 100000 in
theorem bo_instruction (l : Launch) (hl9 : l.stackTraces = false) (sg : St) (hok : stOk sg) (p0 : Int32) (p1 : Int32) (p2 : Int32) : BO l sg yL_instruction wsL_instruction (fun x ol => [.ref x, .int p0, .int p1, .int p2, .ref ol]) yX3_instruction wsX3_instruction (fun x => [.ref x, .int p0, .int p1, .int p2]) := by
  have hnv := hok.2.1.1
  have hnp := hok.2.2.1.1
  rcases z_cl p0 (show sg.2.2.1.length < 2 ^ 31 by omega) with ⟨j9, hj, rfl⟩ | hv
  · have hlp := (hok.2.2.1.2 j9 hj).2.1.1
    have hmn : manyN (rf (psN sg.2.2.1 j9).2.2) (psN sg.2.2.1 j9).2.1.length ≤ (psN sg.2.2.1 j9).2.1.length := ct_le _ _
    rcases z_cl p1 (show manyN (rf (psN sg.2.2.1 j9).2.2) (psN sg.2.2.1 j9).2.1.length < 2 ^ 31 by omega) with ⟨i9, hi, rfl⟩ | hw
    · rcases z_clB p2 0 3 (by decide) (by decide) with ⟨w9, -, hw9, rfl⟩ | hz
      · exact ⟨0, (tellI (rf (psN sg.2.2.1 j9).2.2) (bv (psN sg.2.2.1 j9).2.1) (psN sg.2.2.1 j9).2.1.length i9 w9), sg, by decide, fun D cs S0 ea mi sa Y a u ol f hF => h_instruction_ok l D cs S0 ea mi sa Y a u sg hF ol f (nI j9) (nI i9) (nI w9) (tellI (rf (psN sg.2.2.1 j9).2.2) (bv (psN sg.2.2.1 j9).2.1) (psN sg.2.2.1 j9).2.1.length i9 w9) sg (xOK_rd (hF.more m_cons) (c_X2_instruction l D cs S0 ea mi sa a u sg j9 i9 w9 hj hi (by omega)) ⟨by decide, by decide, by decide, by decide⟩), fun D cs S0 Z b w th hF => mOK_of (c_X3_instruction l D cs S0 Z b w sg hF th j9 hj i9 hi w9 (by omega)) ⟨by decide, by decide, by decide, by decide⟩⟩
      · exact ⟨1, (nI 0), sg, by decide, fun D cs S0 ea mi sa Y a u ol f hF => h_instruction_IO l D cs S0 ea mi sa Y a u sg hF ol f (nI j9) (nI i9) (p2) _ (z_vT (t_X2_instruction_c l hl9 D cs S0 ea mi sa a u sg j9 hj i9 p2 hi (nI_0 ▸ hz)) ⟨by decide, by decide, by decide, by decide⟩ (fun _ _ h9 => h9)), fun D cs S0 Z b w th hF => mOK_of (c_X3_instruction_c l D cs S0 Z b w sg hF th j9 hj i9 hi p2 (inB_no hz)) ⟨by decide, by decide, by decide, by decide⟩⟩
    · exact ⟨1, (nI 0), sg, by decide, fun D cs S0 ea mi sa Y a u ol f hF => h_instruction_IO l D cs S0 ea mi sa Y a u sg hF ol f (nI j9) (p1) (p2) _ (z_vT (t_X2_instruction_b l hl9 D cs S0 ea mi sa a u sg j9 hj p1 p2 hw) ⟨by decide, by decide, by decide, by decide⟩ (fun _ _ h9 => h9)), fun D cs S0 Z b w th hF => mOK_of (c_X3_instruction_b l D cs S0 Z b w sg hF th j9 hj p1 p2 ((inB_vI _ _).trans (vI_no hw (by omega)))) ⟨by decide, by decide, by decide, by decide⟩⟩
  · exact ⟨1, (nI 0), sg, by decide, fun D cs S0 ea mi sa Y a u ol f hF => h_instruction_IO l D cs S0 ea mi sa Y a u sg hF ol f (p0) (p1) (p2) _ (z_vT (t_X2_instruction_a l hl9 D cs S0 ea mi sa a u sg p0 hv p1 p2) ⟨by decide, by decide, by decide, by decide⟩ (fun _ _ h9 => h9)), fun D cs S0 Z b w th hF => mOK_of (c_X3_instruction_a l D cs S0 Z b w sg hF th p0 (vI_no hv (by omega)) p1 p2) ⟨by decide, by decide, by decide, by decide⟩⟩

set_option maxHeartbeats 4000000 in
set_option maxRecDepth 100000 in
theorem bo_apply (l : Launch) (hl9 : l.stackTraces = false) (sg : St) (hok : stOk sg) (p0 : Int32) (p1 : Int32) : BO l sg yL_apply wsL_apply (fun x ol => [.ref x, .int p0, .int p1, .ref ol]) yX3_apply wsX3_apply (fun x => [.ref x, .int p0, .int p1]) := by
  have hnv := hok.2.1.1
  have hnp := hok.2.2.1.1
  rcases z_cl p0 (show sg.2.2.1.length < 2 ^ 31 by omega) with ⟨j9, hj, rfl⟩ | hv
  · rcases z_cl p1 (show sg.2.1.length < 2 ^ 31 by omega) with ⟨v9, hv9, rfl⟩ | hw
    · cases he : eqL (vsN sg.2.1 v9) (psN sg.2.2.1 j9).1
      · exact ⟨2, (nI 0), sg, by decide, fun D cs S0 ea mi sa Y a u ol f hF => h_apply_IA l D cs S0 ea mi sa Y a u sg hF ol f (nI j9) (nI v9) _ (z_vT (t_X2_apply_c l hl9 D cs S0 ea mi sa a u sg j9 hj v9 hv9 he) ⟨by decide, by decide, by decide, by decide⟩ (fun _ _ h9 => h9)), fun D cs S0 Z b w th hF => mOK_of (c_X3_apply_c l D cs S0 Z b w sg hF th j9 hj v9 hv9 he) ⟨by decide, by decide, by decide, by decide⟩⟩
      · rcases Nat.lt_or_ge sg.2.1.length 12 with h4 | h4
        · exact ⟨0, (nI sg.2.1.length), (stV sg (psN sg.2.2.1 j9).2.1), by decide, fun D cs S0 ea mi sa Y a u ol f hF => h_apply_ok l D cs S0 ea mi sa Y a u sg hF ol f (nI j9) (nI v9) (nI sg.2.1.length) (stV sg (psN sg.2.2.1 j9).2.1) (xOK_wr (c_X2_apply l D cs S0 ea mi sa ((ol, la cs f) :: Y) a u sg (hF.more m_cons) j9 v9 hj hv9 he h4) ⟨by decide, by decide, by decide, by decide⟩), fun D cs S0 Z b w th hF => mOK_of (c_X3_apply l D cs S0 Z b w sg hF th j9 hj v9 hv9 he h4) ⟨by decide, by decide, by decide, by decide⟩⟩
        · exact ⟨3, (nI 0), sg, by decide, fun D cs S0 ea mi sa Y a u ol f hF => h_apply_IS l D cs S0 ea mi sa Y a u sg hF ol f (nI j9) (nI v9) _ (z_vT (t_X2_apply_d l hl9 D cs S0 ea mi sa a u sg j9 hj v9 hv9 he h4) ⟨by decide, by decide, by decide, by decide⟩ (fun _ _ h9 => h9)), fun D cs S0 Z b w th hF => mOK_of (c_X3_apply_d l D cs S0 Z b w sg hF th j9 hj v9 hv9 he h4) ⟨by decide, by decide, by decide, by decide⟩⟩
    · exact ⟨1, (nI 0), sg, by decide, fun D cs S0 ea mi sa Y a u ol f hF => h_apply_IO l D cs S0 ea mi sa Y a u sg hF ol f (nI j9) (p1) _ (z_vT (t_X2_apply_b l hl9 D cs S0 ea mi sa a u sg j9 hj p1 hw) ⟨by decide, by decide, by decide, by decide⟩ (fun _ _ h9 => h9)), fun D cs S0 Z b w th hF => mOK_of (c_X3_apply_b l D cs S0 Z b w sg hF th j9 hj p1 (vI_no hw (by omega))) ⟨by decide, by decide, by decide, by decide⟩⟩
  · exact ⟨1, (nI 0), sg, by decide, fun D cs S0 ea mi sa Y a u ol f hF => h_apply_IO l D cs S0 ea mi sa Y a u sg hF ol f (p0) (p1) _ (z_vT (t_X2_apply_a l hl9 D cs S0 ea mi sa a u sg p0 hv p1) ⟨by decide, by decide, by decide, by decide⟩ (fun _ _ h9 => h9)), fun D cs S0 Z b w th hF => mOK_of (c_X3_apply_a l D cs S0 Z b w sg hF th p0 (vI_no hv (by omega)) p1) ⟨by decide, by decide, by decide, by decide⟩⟩

set_option maxHeartbeats 4000000 in
set_option maxRecDepth 100000 in
theorem bo_steps (l : Launch) (hl9 : l.stackTraces = false) (sg : St) (hok : stOk sg) (p0 : Int32) (p1 : Int32) : BO l sg yL_steps wsL_steps (fun x ol => [.ref x, .int p0, .int p1, .ref ol]) yX3_steps wsX3_steps (fun x => [.ref x, .int p0, .int p1]) := by
  have hnv := hok.2.1.1
  have hnp := hok.2.2.1.1
  rcases z_cl p0 (show sg.2.1.length < 2 ^ 31 by omega) with ⟨v9, hv9, rfl⟩ | hv
  · rcases z_cl p1 (show sg.2.1.length < 2 ^ 31 by omega) with ⟨w9, hw9, rfl⟩ | hw
    · exact ⟨0, (leadI sg.2.2.1 (fun _ => nI 1) (vsN sg.2.1 v9) (vsN sg.2.1 w9)), sg, by decide, fun D cs S0 ea mi sa Y a u ol f hF => by
            have e9 : (lwO u (fun _ => nI 1) sg.2.2.1.length (flN sg.2.1 v9) sg.2.2.1.length) (flN sg.2.1 w9) = (leadI sg.2.2.1 (fun _ => nI 1) (vsN sg.2.1 v9) (vsN sg.2.1 w9)) := lead_eq hF hv9 hw9 (fun _ => 1) (fun _ _ => by decide)
            exact h_steps_ok l D cs S0 ea mi sa Y a u sg hF ol f (nI v9) (nI w9) (leadI sg.2.2.1 (fun _ => nI 1) (vsN sg.2.1 v9) (vsN sg.2.1 w9)) sg (e9 ▸ xOK_un (U := fun (_ : Unit) => xuF u 2 (lwO u (fun _ => nI 1) sg.2.2.1.length (flN sg.2.1 v9) sg.2.2.1.length)) (fun _ => (hF.more m_cons).rch) (c_X2_steps l D cs S0 ea mi sa ((ol, la cs f) :: Y) a u sg (hF.more m_cons) v9 w9 hv9 hw9) ⟨by decide, by decide, by decide, by decide⟩), fun D cs S0 Z b w th hF => mOK_of (c_X3_steps l D cs S0 Z b w sg hF th v9 hv9 w9 hw9) ⟨by decide, by decide, by decide, by decide⟩⟩
    · exact ⟨1, (nI 0), sg, by decide, fun D cs S0 ea mi sa Y a u ol f hF => h_steps_IO l D cs S0 ea mi sa Y a u sg hF ol f (nI v9) (p1) _ (z_vT (t_X2_steps_b l hl9 D cs S0 ea mi sa a u sg v9 hv9 p1 hw) ⟨by decide, by decide, by decide, by decide⟩ (fun _ _ h9 => h9)), fun D cs S0 Z b w th hF => mOK_of (c_X3_steps_b l D cs S0 Z b w sg hF th v9 hv9 p1 (vI_no hw (by omega))) ⟨by decide, by decide, by decide, by decide⟩⟩
  · exact ⟨1, (nI 0), sg, by decide, fun D cs S0 ea mi sa Y a u ol f hF => h_steps_IO l D cs S0 ea mi sa Y a u sg hF ol f (p0) (p1) _ (z_vT (t_X2_steps_a l hl9 D cs S0 ea mi sa a u sg p0 hv p1) ⟨by decide, by decide, by decide, by decide⟩ (fun _ _ h9 => h9)), fun D cs S0 Z b w th hF => mOK_of (c_X3_steps_a l D cs S0 Z b w sg hF th p0 (vI_no hv (by omega)) p1) ⟨by decide, by decide, by decide, by decide⟩⟩

set_option maxHeartbeats 4000000 in
set_option maxRecDepth 100000 in
theorem bo_leastCost (l : Launch) (hl9 : l.stackTraces = false) (sg : St) (hok : stOk sg) (p0 : Int32) (p1 : Int32) : BO l sg yL_leastCost wsL_leastCost (fun x ol => [.ref x, .int p0, .int p1, .ref ol]) yX3_leastCost wsX3_leastCost (fun x => [.ref x, .int p0, .int p1]) := by
  have hnv := hok.2.1.1
  have hnp := hok.2.2.1.1
  rcases z_cl p0 (show sg.2.1.length < 2 ^ 31 by omega) with ⟨v9, hv9, rfl⟩ | hv
  · rcases z_cl p1 (show sg.2.1.length < 2 ^ 31 by omega) with ⟨w9, hw9, rfl⟩ | hw
    · exact ⟨0, (leadI sg.2.2.1 (fun j => nI (costN (rf (psN sg.2.2.1 j).2.2) (psN sg.2.2.1 j).2.1.length)) (vsN sg.2.1 v9) (vsN sg.2.1 w9)), sg, by decide, fun D cs S0 ea mi sa Y a u ol f hF => by
            have e9 : (lwO u (fun j => nI (costN (rf (psN sg.2.2.1 j).2.2) (psN sg.2.2.1 j).2.1.length)) sg.2.2.1.length (flN sg.2.1 v9) sg.2.2.1.length) (flN sg.2.1 w9) = (leadI sg.2.2.1 (fun j => nI (costN (rf (psN sg.2.2.1 j).2.2) (psN sg.2.2.1 j).2.1.length)) (vsN sg.2.1 v9) (vsN sg.2.1 w9)) := lead_eq hF hv9 hw9 (fun j => costN (rf (psN sg.2.2.1 j).2.2) (psN sg.2.2.1 j).2.1.length) (fun j hj9 => costN_le (hok.2.2.1.2 j hj9).2.1.1)
            exact h_leastCost_ok l D cs S0 ea mi sa Y a u sg hF ol f (nI v9) (nI w9) (leadI sg.2.2.1 (fun j => nI (costN (rf (psN sg.2.2.1 j).2.2) (psN sg.2.2.1 j).2.1.length)) (vsN sg.2.1 v9) (vsN sg.2.1 w9)) sg (e9 ▸ xOK_un (U := fun (_ : Unit) => xuF u 2 (lwO u (fun j => nI (costN (rf (psN sg.2.2.1 j).2.2) (psN sg.2.2.1 j).2.1.length)) sg.2.2.1.length (flN sg.2.1 v9) sg.2.2.1.length)) (fun _ => (hF.more m_cons).rch) (c_X2_leastCost l D cs S0 ea mi sa ((ol, la cs f) :: Y) a u sg (hF.more m_cons) v9 w9 hv9 hw9) ⟨by decide, by decide, by decide, by decide⟩), fun D cs S0 Z b w th hF => mOK_of (c_X3_leastCost l D cs S0 Z b w sg hF th v9 hv9 w9 hw9) ⟨by decide, by decide, by decide, by decide⟩⟩
    · exact ⟨1, (nI 0), sg, by decide, fun D cs S0 ea mi sa Y a u ol f hF => h_leastCost_IO l D cs S0 ea mi sa Y a u sg hF ol f (nI v9) (p1) _ (z_vT (t_X2_leastCost_b l hl9 D cs S0 ea mi sa a u sg v9 hv9 p1 hw) ⟨by decide, by decide, by decide, by decide⟩ (fun _ _ h9 => h9)), fun D cs S0 Z b w th hF => mOK_of (c_X3_leastCost_b l D cs S0 Z b w sg hF th v9 hv9 p1 (vI_no hw (by omega))) ⟨by decide, by decide, by decide, by decide⟩⟩
  · exact ⟨1, (nI 0), sg, by decide, fun D cs S0 ea mi sa Y a u ol f hF => h_leastCost_IO l D cs S0 ea mi sa Y a u sg hF ol f (p0) (p1) _ (z_vT (t_X2_leastCost_a l hl9 D cs S0 ea mi sa a u sg p0 hv p1) ⟨by decide, by decide, by decide, by decide⟩ (fun _ _ h9 => h9)), fun D cs S0 Z b w th hF => mOK_of (c_X3_leastCost_a l D cs S0 Z b w sg hF th p0 (vI_no hv (by omega)) p1) ⟨by decide, by decide, by decide, by decide⟩⟩

set_option maxHeartbeats 4000000 in
set_option maxRecDepth 100000 in
theorem bo_installVersion (l : Launch) (hl9 : l.stackTraces = false) (sg : St) (hok : stOk sg) (p0 : Int32) : BO l sg yL_installVersion wsL_installVersion (fun x ol => [.ref x, .int p0, .ref ol]) yX3_installVersion wsX3_installVersion (fun x => [.ref x, .int p0]) := by
  have hnv := hok.2.1.1
  have hnp := hok.2.2.1.1
  rcases z_cl p0 (show sg.2.1.length < 2 ^ 31 by omega) with ⟨v9, hv9, rfl⟩ | hv
  · exact ⟨0, (nI (stI sg (vsN sg.2.1 v9)).2.2.2.2.length), (stI sg (vsN sg.2.1 v9)), by decide, fun D cs S0 ea mi sa Y a u ol f hF => h_installVersion_ok l D cs S0 ea mi sa Y a u sg hF ol f (nI v9) (nI (stI sg (vsN sg.2.1 v9)).2.2.2.2.length) (stI sg (vsN sg.2.1 v9)) (xOK_wr (c_X2_installVersion l D cs S0 ea mi sa ((ol, la cs f) :: Y) a u sg (hF.more m_cons) v9 hv9) ⟨by decide, by decide, by decide, by decide⟩), fun D cs S0 Z b w th hF => mOK_of (c_X3_installVersion l D cs S0 Z b w sg hF th v9 hv9) ⟨by decide, by decide, by decide, by decide⟩⟩
  · exact ⟨1, (nI 0), sg, by decide, fun D cs S0 ea mi sa Y a u ol f hF => h_installVersion_IO l D cs S0 ea mi sa Y a u sg hF ol f (p0) _ (z_vT (t_X2_installVersion_a l hl9 D cs S0 ea mi sa a u sg p0 hv) ⟨by decide, by decide, by decide, by decide⟩ (fun _ _ h9 => h9)), fun D cs S0 Z b w th hF => mOK_of (c_X3_installVersion_a l D cs S0 Z b w sg hF th p0 (vI_no hv (by omega))) ⟨by decide, by decide, by decide, by decide⟩⟩

set_option maxHeartbeats 4000000 in
set_option maxRecDepth 100000 in
theorem bo_installPatch (l : Launch) (hl9 : l.stackTraces = false) (sg : St) (hok : stOk sg) (p0 : Int32) : BO l sg yL_installPatch wsL_installPatch (fun x ol => [.ref x, .int p0, .ref ol]) yX3_installPatch wsX3_installPatch (fun x => [.ref x, .int p0]) := by
  have hnv := hok.2.1.1
  have hnp := hok.2.2.1.1
  rcases z_cl p0 (show sg.2.2.1.length < 2 ^ 31 by omega) with ⟨j9, hj, rfl⟩ | hv
  · cases he : eqL sg.2.2.2.1 (psN sg.2.2.1 j9).1
    · exact ⟨2, (nI 0), sg, by decide, fun D cs S0 ea mi sa Y a u ol f hF => h_installPatch_IA l D cs S0 ea mi sa Y a u sg hF ol f (nI j9) _ (z_vT (t_X2_installPatch_b l hl9 D cs S0 ea mi sa a u sg j9 hj he) ⟨by decide, by decide, by decide, by decide⟩ (fun _ _ h9 => h9)), fun D cs S0 Z b w th hF => mOK_of (c_X3_installPatch_b l D cs S0 Z b w sg hF th j9 hj he) ⟨by decide, by decide, by decide, by decide⟩⟩
    · exact ⟨0, (nI (stI sg (psN sg.2.2.1 j9).2.1).2.2.2.2.length), (stI sg (psN sg.2.2.1 j9).2.1), by decide, fun D cs S0 ea mi sa Y a u ol f hF => h_installPatch_ok l D cs S0 ea mi sa Y a u sg hF ol f (nI j9) (nI (stI sg (psN sg.2.2.1 j9).2.1).2.2.2.2.length) (stI sg (psN sg.2.2.1 j9).2.1) (xOK_wr (c_X2_installPatch l D cs S0 ea mi sa ((ol, la cs f) :: Y) a u sg (hF.more m_cons) j9 hj he) ⟨by decide, by decide, by decide, by decide⟩), fun D cs S0 Z b w th hF => mOK_of (c_X3_installPatch l D cs S0 Z b w sg hF th j9 hj he) ⟨by decide, by decide, by decide, by decide⟩⟩
  · exact ⟨1, (nI 0), sg, by decide, fun D cs S0 ea mi sa Y a u ol f hF => h_installPatch_IO l D cs S0 ea mi sa Y a u sg hF ol f (p0) _ (z_vT (t_X2_installPatch_a l hl9 D cs S0 ea mi sa a u sg p0 hv) ⟨by decide, by decide, by decide, by decide⟩ (fun _ _ h9 => h9)), fun D cs S0 Z b w th hF => mOK_of (c_X3_installPatch_a l D cs S0 Z b w sg hF th p0 (vI_no hv (by omega))) ⟨by decide, by decide, by decide, by decide⟩⟩

set_option maxHeartbeats 4000000 in
set_option maxRecDepth 100000 in
theorem bo_rollBack (l : Launch) (hl9 : l.stackTraces = false) (sg : St) (hok : stOk sg)  : BO l sg yL_rollBack wsL_rollBack (fun x ol => [.ref x, .ref ol]) yX3_rollBack wsX3_rollBack (fun x => [.ref x]) := by
  have hnv := hok.2.1.1
  have hnp := hok.2.2.1.1
  rcases Nat.eq_zero_or_pos sg.2.2.2.2.length with h4 | h4
  · exact ⟨1, (nI 0), sg, by decide, fun D cs S0 ea mi sa Y a u ol f hF => h_rollBack_IS l D cs S0 ea mi sa Y a u sg hF ol f  _ (z_vT (t_X2_rollBack l hl9 D cs S0 ea mi sa a u sg h4) ⟨by decide, by decide, by decide, by decide⟩ (fun _ _ h9 => h9)), fun D cs S0 Z b w th hF => mOK_of (c_X3_rollBack_a l D cs S0 Z b w sg hF th h4) ⟨by decide, by decide, by decide, by decide⟩⟩
  · exact ⟨0, (nI (sg.2.2.2.2.length - 1)), (stD (stJ sg (vsN sg.2.2.2.2 (sg.2.2.2.2.length - 1))) (sg.2.2.2.2.length - 1)), by decide, fun D cs S0 ea mi sa Y a u ol f hF => h_rollBack_ok l D cs S0 ea mi sa Y a u sg hF ol f  (nI (sg.2.2.2.2.length - 1)) (stD (stJ sg (vsN sg.2.2.2.2 (sg.2.2.2.2.length - 1))) (sg.2.2.2.2.length - 1)) (xOK_wr (c_X2_rollBack l D cs S0 ea mi sa ((ol, la cs f) :: Y) a u sg (hF.more m_cons) h4) ⟨by decide, by decide, by decide, by decide⟩), fun D cs S0 Z b w th hF => mOK_of (c_X3_rollBack l D cs S0 Z b w sg hF th h4) ⟨by decide, by decide, by decide, by decide⟩⟩
