/-! what stays of the start for methods that throw or that make a list's array -/
abbrev eIO : String := "java/lang/IndexOutOfBoundsException"
abbrev eIA : String := "java/lang/IllegalArgumentException"
abbrev eIS : String := "java/lang/IllegalStateException"
abbrev eNm : List String := ["java/lang/RuntimeException", "java/lang/Exception"]
abbrev oO : String := "java/lang/Object"
abbrev zStrs : List (Nat × String) := [(47, "n is not 1 to 8"), (54, "the buffer would have too many bytes"), (77, "no such place"), (130, "the patches cannot be composed"), (145, "no such instruction"), (147, "what is not 0 to 3"), (168, "the base of the patch is not installed"), (170, "the history is empty"), (191, "no such version"), (193, "no such patch"), (195, "size is not 2 to 32"), (197, "there are 12 versions"), (199, "there are 12 patches")]
abbrev zCasts : List (String × String) := [(eIO, eIO), (eIA, eIA), (eIS, eIS), (RX1, RX1), (RX0, RX0), (RX1, oO), (RX0, oO), ("[I", "java/lang/Cloneable")]
abbrev zDecl : List MethodName := [⟨"java/lang/RuntimeException", "<init>", "(Ljava/lang/String;)V"⟩, ⟨"java/lang/Exception", "<init>", "(Ljava/lang/String;)V"⟩, ⟨"java/lang/Throwable", "<init>", "(Ljava/lang/String;)V"⟩]
abbrev zNg (cls : String) : List Cond := zDecl.map Cond.declares ++ [.castable cls cls]
def TB (mi : Nat) (sa : Nat → Nat) (U : State) : Prop := (∀ q ∈ zCasts, va_Nw (.castable q.1 q.2) U) ∧ va_Dc U ∧ va_Mi "[Ljava/lang/Object;" mi U ∧ va_AO oO U ∧ (∀ q ∈ zStrs, vk_R RX2 q.1 q.2 (sa q.1) U) ∧ ∀ y ∈ zDecl, va_Nw (.declares y) U
def EV (A : Nat → Prop) (ea mi : Nat) (sa : Nat → Nat) (U : State) (H : Heap) : Prop :=
  va_Z "java/util/ArrayList" "DEFAULTCAPACITY_EMPTY_ELEMENTDATA" "[Ljava/lang/Object;" (.ref ea) A U H ∧ va_T (.object oO) ea 0 (fun _ => .null) A U H ∧ vx_Zq Bundle.tN "UNASSIGNED_STACK" Bundle.steD A U H ∧ vx_Zq Bundle.tN "SUPPRESSED_SENTINEL" Bundle.listD A U H ∧ TB mi sa U
theorem TB.warm {mi : Nat} {sa : Nat → Nat} {s U : State} (hW : s.WarmedH U.vm) (h : TB mi sa s) : TB mi sa U :=
  ⟨fun q hq => va_Nw.warmC hW (h.1 q hq), va_Dc.moved hW.alike h.2.1, va_Mi.moved hW.alike h.2.2.1, va_AO.moved hW.alike h.2.2.2.1, fun q hq => vk_R.warm hW (h.2.2.2.2.1 q hq), fun y hy => va_Nw.warmD hW (h.2.2.2.2.2 y hy)⟩
theorem EV.warm {A : Nat → Prop} {ea mi : Nat} {sa : Nat → Nat} {s U : State} {H : Heap} (hW : s.WarmedH U.vm) (h : EV A ea mi sa s H) : EV A ea mi sa U H :=
  ⟨va_Z.moved hW.alike h.1, va_T.moved hW.alike h.2.1, vx_Zq.moved hW.alike h.2.2.1, vx_Zq.moved hW.alike h.2.2.2.1, h.2.2.2.2.warm hW⟩
theorem EV.kept {A : Nat → Prop} {ea mi : Nat} {sa : Nat → Nat} {s : State} {H0 H : Heap} {locs : List Loc} (hS : va_S A H0 H locs) (h : EV A ea mi sa s H0) : EV A ea mi sa s H :=
  ⟨va_Z.kept h.1 hS.2.1, va_T.kept h.2.1 hS.2.1, vx_Zq.kept h.2.2.1 hS.2.1, vx_Zq.kept h.2.2.2.1 hS.2.1, h.2.2.2.2⟩
def zE (As : List Value) (PH : Heap → Prop) (D : va_G) (cs : Nat → ClassId) (S0 ea mi : Nat) (sa : Nat → Nat) : Array Value → State → Prop := fun v U => v = As.toArray ∧ PH U.heap ∧ KK D cs U ∧ EV (SA S0) ea mi sa U U.heap
theorem zE_blind {As : List Value} {PH : Heap → Prop} {D : va_G} {cs : Nat → ClassId} {S0 ea mi : Nat} {sa : Nat → Nat} : FrameBlind (zE As PH D cs S0 ea mi sa) := fun _ U g mk h => ⟨h.1, h.2.1, va_K.moved (u := U) (Vm.Alike.refl U.vm) h.2.2.1, EV.warm (s := U) (State.WarmedH.refl U) h.2.2.2⟩
theorem zE_pre {As : List Value} {PH : Heap → Prop} {D : va_G} {cs : Nat → ClassId} {S0 ea mi : Nat} {sa : Nat → Nat} {s : State} {H : Heap} {locs : List Loc} (h : PH H) (hK : KK D cs s) (hE : EV (SA S0) ea mi sa s s.heap) (hS : va_S (SA S0) s.heap H locs) : ∀ U : State, U.heap = H → s.WarmedH U.vm → zE As PH D cs S0 ea mi sa As.toArray U := fun U hU hW => ⟨rfl, by rw [hU]; exact h, va_K.moved hW.alike hK, by rw [hU]; exact (hE.kept hS).warm hW⟩
/-- what a method has thrown, all that was there before stays -/
def xE (E0 : String) : String → State → State → Prop := fun E st t => E = E0 ∧ st.heap.size ≤ t.heap.size ∧ ∀ q : Nat, q < st.heap.size → t.heap[q]? = st.heap[q]?
abbrev vT (l : Launch) (y : MethodName) (ws : List Cond) (rm : Room) (Pc : Array Value → State → Prop) (E : String) : Prop := vx_Met l y ws rm Pc (fun _ _ _ _ => False) (xE E) 1 6 (fun _ => False)
theorem ng_IO : (vx_atS RX2 79 eIO eNm).filter (fun w => !goodWord w) = zNg eIO := by decide +kernel
theorem ng_IA : (vx_atS RX2 49 eIA eNm).filter (fun w => !goodWord w) = zNg eIA := by decide +kernel
theorem ng_IS : (vx_atS RX2 56 eIS eNm).filter (fun w => !goodWord w) = zNg eIS := by decide +kernel
theorem ot_IO : ∀ w ∈ Cond.classLink RX2 75 eIO :: Cond.initialized eIO :: vx_atS RX2 79 eIO eNm, vx_ot w = true := by decide +kernel
theorem ot_IA : ∀ w ∈ Cond.classLink RX2 45 eIA :: Cond.initialized eIA :: vx_atS RX2 49 eIA eNm, vx_ot w = true := by decide +kernel
theorem ot_IS : ∀ w ∈ Cond.classLink RX2 52 eIS :: Cond.initialized eIS :: vx_atS RX2 56 eIS eNm, vx_ot w = true := by decide +kernel
section ZT
variable {p : Program} {l : Launch} {e : Env} {R : Room} {s : State} {m : MethodId} {args : Array Value} {below : List Frame} {meth : Method} {c : Code} {H : Heap} {locs : List Loc} {cells slots : Nat} {Q : State → Prop}
variable {cc : ByteArray} {pc S0 ea mi : Nat} {sa : Nat → Nat} {ls : Array Slot} {st0 rest : List Value} {Qc : Array Value → State → Outcome → State → Prop} {free : Addr → Prop}
/-- a throw: the object is new, nothing else changes -/
theorem z_throw (hexec : p.tables.exec = Jvm.exec) (hb : c.code = cc) (hl : l.stackTraces = false) {cls text : String} {ik is ic mc ms : Nat} (hown : s.vm.findClass RX2 = some m.cls) (hcls : Bundle.fit cls = true)
    (hk : (Cond.classLink RX2 ik cls).before args s = true) (hini : (Cond.initialized cls).before args s = true) (hgd : ∀ w ∈ (vx_atS RX2 ic cls eNm).filter goodWord, w.before args s = true) (hng : (vx_atS RX2 ic cls eNm).filter (fun w => !goodWord w) = zNg cls) (hot : ∀ w ∈ Cond.classLink RX2 ik cls :: Cond.initialized cls :: vx_atS RX2 ic cls eNm, vx_ot w = true) (hca : (cls, cls) ∈ zCasts) (hstr : (is, text) ∈ zStrs)
    (hE : EV (SA S0) ea mi sa s s.heap) (hsize : ls.size = c.maxLocals)
    (d0 : decode cc pc = .ok (.new ik, 3)) (d3 : decode cc (pc + 3) = .ok (.dup, 1)) (d4 : decode cc (pc + 4) = .ok (.ldc is, 2)) (d6 : decode cc (pc + 6) = .ok (.invokespecial ic, 3)) (d9 : decode cc (pc + 9) = .ok (.athrow, 1))
    (hout : ∀ x ∈ c.exceptionTable.toList, False)
    (hRframes : 5 < R.frames) (hRlocals : (rest.map fun v => v.category).sum + 82 ≤ R.locals) (hRcells : 1 ≤ R.cells) (hRslots : 6 ≤ R.slots) (hlocks : meth.locks = false) (hmc : 1 ≤ mc) (hms : 6 ≤ ms) :
    W p l e R s m args below meth c s.heap [] 0 0 (vx_MQ below Qc (xE cls) args s mc ms free) (F0 m pc ls rest) :=
  vx_throwS (A := SA S0) (names := eNm) (sa := sa is) hexec hb hl hown hcls (by decide) hk hini (hE.2.2.2.2.2.2.2.2.1 (is, text) hstr)
    (vx_hat (B := zNg cls) hgd (fun w hw => by rw [hng] at hw; exact hw) (fun w hw => by
      rcases List.mem_append.mp hw with h | h
      · obtain ⟨y, hy, rfl⟩ := List.mem_map.mp h
        exact va_Nw.use rfl (hE.2.2.2.2.2.2.2.2.2 y hy)
      · rw [List.mem_singleton.mp h]; exact va_Nw.use rfl (hE.2.2.2.2.1 (cls, cls) hca))) hot hE.2.2.1 hE.2.2.2.1 va_S.rf hsize d0 d3 d4 d6 d9 (fun x hx => (hout x hx).elim) (by exact hRframes) (by exact hRlocals) (by omega) (by omega) hlocks
    (fun t _ h1 h2 => ⟨rfl, h1, h2⟩) (fun z hz => absurd hz List.not_mem_nil) (by omega) (by omega)
/-- a call that only throws, not caught here -/
theorem z_thr {E0 : String} {mc ms : Nat} (hr : vx_Run p l e R s m args below meth c s.heap [] 0 0 1 6 (F0 m pc ls st0) rest (fun _ _ _ => False) (xE E0) (fun _ => False)) (hout : ∀ x ∈ c.exceptionTable.toList, False) (hlocks : meth.locks = false) (hmc : 1 ≤ mc) (hms : 6 ≤ ms) :
    W p l e R s m args below meth c s.heap [] 0 0 (vx_MQ below Qc (xE E0) args s mc ms free) (F0 m pc ls st0) := by
  intro T hT X
  rcases hr T hT X with ⟨v, st₀, t, T', L, h0, X', hL, e1, e2, hF, st⟩ | ⟨q, st₀, t, T', L, E, ce, h0, X', hL, e1, e2, ⟨hE0, hz, hk⟩, hce, hcv, hcl, st⟩
  · exact hF.elim
  · rw [h0] at hz hk
    obtain ⟨t2, a1, b1⟩ := vx_out (Qc := Qc) (XC := xE E0) (free := free) (H := T'.heap) (mc := mc) (ms := ms) (pc := pc) (ls := ls) (rest := rest) (fun x hx => (hout x hx).elim) hlocks (by rw [e1]; exact hce) hcv hcl (fun t9 ht9 _ => ⟨hE0, by rw [ht9, e1]; exact hz, fun q9 hq9 => by rw [ht9, e1]; exact hk q9 hq9⟩) (fun z hz9 => by
      rcases List.mem_append.mp hz9 with h | h
      · exact absurd h List.not_mem_nil
      · exact (hL z h).elim) (by omega) (by omega) T' rfl X'
    exact ⟨t2, st.trans a1, b1⟩
end ZT
