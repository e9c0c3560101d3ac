/-! feed over the class's world -/
def fdL (w : Int64) (n : Nat) : BL := (List.range n).map (fun j => fdB w (n - 1 - j))
theorem fdL_len {w : Int64} {n : Nat} : (fdL w n).length = n := by unfold fdL; rw [List.length_map, List.length_range]
theorem bv_lo {xs ys : BL} {i : Nat} (h : i < xs.length) : bv (xs ++ ys) i = bv xs i := by
  unfold bv
  rw [List.getD_eq_getElem?_getD, List.getD_eq_getElem?_getD, List.getElem?_append_left h]
theorem bv_hi {xs ys : BL} {j : Nat} : bv (xs ++ ys) (xs.length + j) = bv ys j := by
  unfold bv
  rw [List.getD_eq_getElem?_getD, List.getD_eq_getElem?_getD, List.getElem?_append_right (Nat.le_add_right _ _), Nat.add_sub_cancel_left]
theorem bv_fd {w : Int64} {n j : Nat} (h : j < n) : bv (fdL w n) j = fdB w (n - 1 - j) := by
  unfold bv fdL
  rw [List.getD_eq_getElem?_getD, List.getElem?_map, List.getElem?_range h]; rfl
theorem rowOk_fd {xs : BL} {w : Int64} {n : Nat} (h : rowOk xs) (hn : xs.length + n ≤ 400) : rowOk (xs ++ fdL w n) := by
  have hl : (xs ++ fdL w n).length = xs.length + n := by rw [List.length_append, fdL_len]
  refine ⟨by rw [hl]; exact hn, fun i => ?_⟩
  by_cases h1 : i < xs.length
  · rw [bv_lo h1]; exact h.2 i
  · obtain ⟨j, rfl⟩ : ∃ j, i = xs.length + j := ⟨i - xs.length, by omega⟩
    rw [bv_hi]
    by_cases h2 : j < n
    · rw [bv_fd h2]; exact fdB_lt _ _
    · rw [bv_out (by rw [fdL_len]; omega)]; decide
theorem XF.feed {cs : Nat → ClassId} {ea : Nat} {u : XU} {σ : St} {Y : va_W} {w : Int64} {n : Nat} (h : XF cs ea u σ Y) (hn : σ.1.length + n ≤ 400) : XF cs ea (xuF u 0 (fdR (xF u 0) σ.1.length w n n)) (stB0 σ (σ.1 ++ fdL w n)) Y := by
  refine ⟨fun i hi => ?_, h.2.1, h.2.2.1, h.2.2.2.1, h.2.2.2.2.1, h.2.2.2.2.2.1, h.2.2.2.2.2.2.1, h.2.2.2.2.2.2.2.1, rowOk_fd h.2.2.2.2.2.2.2.2.1 hn, h.2.2.2.2.2.2.2.2.2⟩
  have hi : i < (σ.1 ++ fdL w n).length := hi
  rw [List.length_append, fdL_len] at hi
  show fdR (xF u 0) σ.1.length w n n i = nI (bv (σ.1 ++ fdL w n) i)
  by_cases h1 : i < σ.1.length
  · rw [fdR_lo n h1, bv_lo h1]; exact h.1 i h1
  · obtain ⟨j, rfl⟩ : ∃ j, i = σ.1.length + j := ⟨i - σ.1.length, by omega⟩
    rw [fdR_hi n (by omega), bv_hi, bv_fd (by omega)]
theorem c_X2_feedW (l : Launch) (D : va_G) (cs : Nat → ClassId) (S0 ea : Nat) (Y : va_W) (a : Nat → Nat) (u : XU) (sg : St) (hF : XF cs ea u sg Y) (n9 : Nat) (w : Int64) (h1 : 1 ≤ n9) (h2 : n9 ≤ 8) (h3 : sg.1.length + n9 ≤ 400) :
    Met l yX2_feed wsX2_feed ({ frames := 0, cells := 0, slots := 0, locals := 0 }) (zP [.ref (a 0), .long w, .int (nI n9)] (fun H => Wd D S0 (XW cs a u sg Y) H) D cs)
      (va_Qi (fun r (v : XU × va_W) => r = nI (sg.1.length + n9) ∧ XF cs ea v.1 (stB0 sg (sg.1 ++ fdL w n9)) (v.2 ++ Y)) (fun v t => Wd D S0 (XW cs a v.1 (stB0 sg (sg.1 ++ fdL w n9)) (v.2 ++ Y)) t.heap) (SA S0)) 0 0 (SA S0) := by
  refine z_met (c_X2_feed l D cs S0 ([(a 2, fa cs 200 (xF u 1)), (a 3, fa cs 12 (xF u 2)), (a 4, LO (xm u 0) (xe u 0) sg.2.1.length), (a 5, LO (xm u 1) (xe u 1) sg.2.2.1.length), (a 6, LO (xm u 2) (xe u 2) sg.2.2.2.2.length)] ++ (XE cs u ++ Y)) (a 0) (a 1) (a 4) (a 5) (xe u 3) (a 6) (a 2) (a 3) sg.1.length n9 (xF u 0) w h1 h2 h3) ⟨Nat.le_refl _, Nat.le_refl _, Nat.le_refl _, Nat.le_refl _⟩ ⟨Nat.le_refl _, Nat.le_refl _⟩ (fun _ _ h9 => h9) (fun b s o t _ h9 => ⟨?_, h9.2⟩)
  obtain ⟨⟨r, v, g1, g2, g3⟩, -⟩ := h9
  refine ⟨r, (xuF u 0 (fdR (xF u 0) sg.1.length w n9 n9), []), g1, ⟨g2, hF.feed h3⟩, ?_⟩
  have hl : (sg.1 ++ fdL w n9).length = sg.1.length + n9 := by rw [List.length_append, fdL_len]
  rw [← hl] at g3
  exact g3

