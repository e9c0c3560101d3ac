/-! the start: what the tables and the Statement give -/
theorem st_ex {args : Array Value} {s : State} {own tx : String} {k : Nat} (h1 : (Cond.stringRef own k tx).before args s = true) (h2 : (Cond.exactly (.string own k) "java/lang/String").before args s = true) : ∃ a : Nat, vk_R own k tx a s := by
  obtain ⟨a, -, -, -, h3, -⟩ := Cond.exactly_spec h2
  exact ⟨a, vk_R.of h1 h3⟩
theorem st_str {args : Array Value} {s : State} : ∀ (L : List (Nat × String)), (∀ q ∈ L, (Cond.stringRef RX2 q.1 q.2).before args s = true ∧ (Cond.exactly (.string RX2 q.1) "java/lang/String").before args s = true) → ∃ sa : Nat → Nat, ∀ q ∈ L, vk_R RX2 q.1 q.2 (sa q.1) s := fun L hL => by
  refine ⟨fun k => match (Term.string RX2 k).eval #[] s none [] s with | some (.ref a) => a | _ => 0, fun q hq => ?_⟩
  obtain ⟨h1, h2⟩ := hL q hq
  obtain ⟨a, h3⟩ := st_ex h1 h2
  have e : (match (Term.string RX2 q.1).eval #[] s none [] s with | some (.ref a) => a | _ => 0) = a := by rw [h3.2]
  show vk_R RX2 q.1 q.2 (match (Term.string RX2 q.1).eval #[] s none [] s with | some (.ref a) => a | _ => 0) s
  rw [e]
  exact h3
theorem st_self {s : State} {C : String} {c : ClassId} (h : s.vm.findClass C = some c) : va_Nw (.castable C C) s := by
  unfold va_Nw Cond.before Cond.holds
  simp only [Cond.value]
  rw [h]
  simp [Vm.assignable_self]
/-- what stays of the start -/
def lw_E (D : va_G) (cs : Nat → ClassId) (ea mi : Nat) (sa : Nat → Nat) (s : State) : Prop := KK D cs s ∧ EV (SA s.heap.size) ea mi sa s s.heap ∧ AA cs s
theorem lw_env {p : Program} {s : State} {m : MethodId} {meth : Method} {c : Code} {b9 L : Nat} {xs : Nat → Int32} (C0 : lw_At p s m meth c b9 L xs) : ∃ (D : va_G) (cs : Nat → ClassId) (ea mi : Nat) (sa : Nat → Nat), lw_E D cs ea mi sa s := by
  obtain ⟨hx, hb, hr, hml, hown, hts, hX, hbl, hlocks, hgv⟩ := C0
  have hs := flat_of_before _ hgv
  have hA : ∀ a : Nat, a < s.heap.size → ¬ SA s.heap.size a := fun a h => Nat.not_le.mpr h
  have hwl : ∀ w ∈ wsL_law, w.before #[Value.ref b9] s = true := fun w h => hts w (wsL_law_in w h)
  obtain ⟨c0, i0, k0⟩ := u_known (C := RJx4a65c) (T := TJx4a65c) (N := 3) (n := 3) hts inJx4a65c (hts (.instantiable RJx4a65c 3) (by decide +kernel))
  obtain ⟨c1, i1, k1⟩ := u_known (C := RX0) (T := TX0) (N := 7) (n := 7) hts inX0 (hts (.instantiable RX0 7) (by decide +kernel))
  obtain ⟨c2, i2, k2⟩ := u_known (C := RX1) (T := TX1) (N := 1) (n := 1) hts inX1 (hts (.instantiable RX1 1) (by decide +kernel))
  obtain ⟨c3, i3, k3⟩ := u_known (C := RX2) (T := TX2) (N := 8) (n := 8) hts inX2 (hts (.instantiable RX2 8) (by decide +kernel))
  obtain ⟨aI, kI, pI, f1, f2, f3⟩ := Cond.arrayClass_spec (hts (.arrayClass .int) (by decide +kernel))
  obtain ⟨pO, aO, kO, g1, -, g2, g3, g4⟩ := Cond.arrayOver_spec (hts (.arrayOver (.object "java/lang/Object")) (by decide +kernel))
  obtain ⟨pA, aA, kA, h1, -, h2, h3, h4⟩ := arrayOverA_spec (hts (.arrayOver (.array .int)) (by decide +kernel))
  have hpA : pA = aI := Option.some.inj (h1.symm.trans f1)
  obtain ⟨ea, he1, he2⟩ := va_Tof (s := s) (N := 0) (f := fun _ => .null) (A := SA s.heap.size) (by decide) (hs (.arrayOf (.static "java/util/ArrayList" "DEFAULTCAPACITY_EMPTY_ELEMENTDATA" "[Ljava/lang/Object;") (.object oO)) (by decide +kernel)) (va_eqt (hs (.eq (.length (.static "java/util/ArrayList" "DEFAULTCAPACITY_EMPTY_ELEMENTDATA" "[Ljava/lang/Object;")) (.int 0)) (by decide +kernel))) (fun j hj => absurd hj (Nat.not_lt_zero j)) hA
  obtain ⟨mi, hmi⟩ := va_Mi.of (hs (.isRef (.mirror "[Ljava/lang/Object;")) (by decide +kernel))
  obtain ⟨sa, hsa⟩ := st_str (args := #[Value.ref b9]) (s := s) zStrs (fun q hq => ⟨hts (.stringRef RX2 q.1 q.2) ((by decide +kernel : ∀ q ∈ zStrs, Cond.stringRef RX2 q.1 q.2 ∈ lw_tbl) q hq), hs (.exactly (.string RX2 q.1) "java/lang/String") ((by decide +kernel : ∀ q ∈ zStrs, Cond.exactly (.string RX2 q.1) "java/lang/String" ∈ flatC (Jvm.Cond.and given_1 narrow_1)) q hq)⟩)
  refine ⟨(fun k => [c0, c1, c2, c3].getD k 0, fun k => [i0, i1, i2, i3].getD k (fun _ => 0)), fun k => [aI, aO, aA].getD k 0, ea, mi, sa, ⟨⟨?_, ?_⟩, ⟨?_, he2, ?_, ?_, ?_, ?_, hmi, ?_, hsa, ?_⟩, ⟨kA, h2, hpA ▸ h3⟩⟩⟩
  · intro k q hq
    match k, hq with
    | 0, hq => cases hq; exact k0
    | 1, hq => cases hq; exact k1
    | 2, hq => cases hq; exact k2
    | 3, hq => cases hq; exact k3
    | k + 4, hq => simp [vwCl] at hq
  · intro k q hq
    match k, hq with
    | 0, hq => cases hq; exact ⟨fun n z => ⟨fun k h => (by cases h), kI, f2, pI, f3⟩, f1⟩
    | 1, hq => cases hq; exact ⟨fun n z => ⟨fun k h => (by cases h), kO, g2, pO, g3⟩, kO, pO, g2, g3, g1, g4⟩
    | 2, hq => cases hq; exact ⟨fun n z => ⟨fun k h => (by cases h), kA, h2, pA, h3⟩, h4⟩
    | k + 3, hq => simp at hq
  · exact va_Zof (hts (.laysStatic "java/util/ArrayList" "DEFAULTCAPACITY_EMPTY_ELEMENTDATA" "[Ljava/lang/Object;") (by decide +kernel)) (hts (.initialized "java/util/ArrayList") (by decide +kernel)) he1 hA
  · exact vx_Zqof (hts (.laysStatic Bundle.tN "UNASSIGNED_STACK" Bundle.steD) (by decide +kernel)) (hts (.initialized Bundle.tN) (by decide +kernel)) (hs (.isRef (.static Bundle.tN "UNASSIGNED_STACK" Bundle.steD)) (by decide +kernel)) hA
  · exact vx_Zqof (hts (.laysStatic Bundle.tN "SUPPRESSED_SENTINEL" Bundle.listD) (by decide +kernel)) (hts (.initialized Bundle.tN) (by decide +kernel)) (hs (.isRef (.static Bundle.tN "SUPPRESSED_SENTINEL" Bundle.listD)) (by decide +kernel)) hA
  · intro q hq
    rcases (by decide +kernel : ∀ q ∈ zCasts, q = (RX0, RX0) ∨ q = (RX1, RX1) ∨ Cond.castable q.1 q.2 ∈ lw_tbl) q hq with h | h | h
    · rw [h]; exact st_self k1.2.1
    · rw [h]; exact st_self k2.2.1
    · exact va_Nw.of rfl (hts (.castable q.1 q.2) h)
  · exact va_Dc.of (hts (.declares ⟨"java/lang/Object", "getClass", "()Ljava/lang/Class;"⟩) (by decide +kernel))
  · exact va_AO.of (hts (.arrayOver (.object oO)) (by decide +kernel))
  · intro y hy
    exact va_Nw.of rfl (hts (.declares y) ((by decide +kernel : ∀ y ∈ zDecl, Cond.declares y ∈ lw_tbl) y hy))
