/-! collisions -/
def colP (xs : BL) (size i j : Nat) : Bool := decide (nI (wsum (bv xs) (j * size) size) = nI (wsum (bv xs) (i * size) size)) && !(stB (bb xs) (bb xs) (j * size) (i * size) size)
def colN (xs : BL) (size : Nat) : Nat → Nat
  | 0 => 0
  | i + 1 => colN xs size i + ct (colP xs size i) i
theorem colP_f1 {xs : BL} {size i j : Nat} (h : ¬ nI (wsum (bv xs) (j * size) size) = nI (wsum (bv xs) (i * size) size)) : colP xs size i j = false := by
  unfold colP; rw [decide_eq_false h]; rfl
theorem colP_f2 {xs : BL} {size i j : Nat} (h : stB (bb xs) (bb xs) (j * size) (i * size) size = true) : colP xs size i j = false := by
  unfold colP; rw [h]; exact Bool.and_false _
theorem colP_t {xs : BL} {size i j : Nat} (h : nI (wsum (bv xs) (j * size) size) = nI (wsum (bv xs) (i * size) size)) (h2 : stB (bb xs) (bb xs) (j * size) (i * size) size = false) : colP xs size i j = true := by
  unfold colP; rw [decide_eq_true h, h2]; rfl

