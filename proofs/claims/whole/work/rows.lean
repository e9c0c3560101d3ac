section
-- ===== PART A: goes FIRST, ahead of the names: the tables' words, and 'selects' of the private methods out of them =====
/-- a private method of a class that the tables say can be made, by its rows of tables_1 -/
def lw_okq (q : MethodName × Nat) : Prop := (q.1.cls ≠ "java/lang/invoke/MethodHandle" ∧ q.1.cls ≠ "java/lang/invoke/VarHandle") ∧ Cond.instantiable q.1.cls q.2 ∈ tables_1 ∧ Cond.privateMethod q.1 ∈ tables_1 ∧ Cond.instanceMethod q.1 ∈ tables_1
theorem lw_p0 : lw_okq (⟨"java/lang/Throwable", "fillInStackTrace", "(I)Ljava/lang/Throwable;"⟩, 6) := ⟨⟨by decide +kernel, by decide +kernel⟩, List.mem_of_getElem? (i := 206) (by decide +kernel), List.mem_of_getElem? (i := 204) (by decide +kernel), List.mem_of_getElem? (i := 205) (by decide +kernel)⟩
theorem lw_p1 : lw_okq (⟨"DeltaUpdater", "checkRoomForVersion", "()V"⟩, 8) := ⟨⟨by decide +kernel, by decide +kernel⟩, List.mem_of_getElem? (i := 21) (by decide +kernel), List.mem_of_getElem? (i := 259) (by decide +kernel), List.mem_of_getElem? (i := 260) (by decide +kernel)⟩
theorem lw_p2 : lw_okq (⟨"java/util/ArrayList", "add", "(Ljava/lang/Object;[Ljava/lang/Object;I)V"⟩, 3) := ⟨⟨by decide +kernel, by decide +kernel⟩, List.mem_of_getElem? (i := 29) (by decide +kernel), List.mem_of_getElem? (i := 268) (by decide +kernel), List.mem_of_getElem? (i := 269) (by decide +kernel)⟩
theorem lw_p3 : lw_okq (⟨"java/util/ArrayList", "grow", "()[Ljava/lang/Object;"⟩, 3) := ⟨⟨by decide +kernel, by decide +kernel⟩, List.mem_of_getElem? (i := 29) (by decide +kernel), List.mem_of_getElem? (i := 272) (by decide +kernel), List.mem_of_getElem? (i := 273) (by decide +kernel)⟩
theorem lw_p4 : lw_okq (⟨"java/util/ArrayList", "grow", "(I)[Ljava/lang/Object;"⟩, 3) := ⟨⟨by decide +kernel, by decide +kernel⟩, List.mem_of_getElem? (i := 29) (by decide +kernel), List.mem_of_getElem? (i := 276) (by decide +kernel), List.mem_of_getElem? (i := 277) (by decide +kernel)⟩
theorem lw_p5 : lw_okq (⟨"DeltaUpdater", "rowOf", "(I)LDeltaUpdater$Row;"⟩, 8) := ⟨⟨by decide +kernel, by decide +kernel⟩, List.mem_of_getElem? (i := 21) (by decide +kernel), List.mem_of_getElem? (i := 321) (by decide +kernel), List.mem_of_getElem? (i := 322) (by decide +kernel)⟩
theorem lw_p6 : lw_okq (⟨"DeltaUpdater", "checkRoomForPatch", "()V"⟩, 8) := ⟨⟨by decide +kernel, by decide +kernel⟩, List.mem_of_getElem? (i := 21) (by decide +kernel), List.mem_of_getElem? (i := 403) (by decide +kernel), List.mem_of_getElem? (i := 404) (by decide +kernel)⟩
theorem lw_p7 : lw_okq (⟨"DeltaUpdater", "firstLike", "(I)I"⟩, 8) := ⟨⟨by decide +kernel, by decide +kernel⟩, List.mem_of_getElem? (i := 21) (by decide +kernel), List.mem_of_getElem? (i := 415) (by decide +kernel), List.mem_of_getElem? (i := 416) (by decide +kernel)⟩
theorem lw_p8 : lw_okq (⟨"DeltaUpdater", "patchOf", "(I)LDeltaUpdater$Patch;"⟩, 8) := ⟨⟨by decide +kernel, by decide +kernel⟩, List.mem_of_getElem? (i := 21) (by decide +kernel), List.mem_of_getElem? (i := 472) (by decide +kernel), List.mem_of_getElem? (i := 473) (by decide +kernel)⟩
theorem lw_p9 : lw_okq (⟨"DeltaUpdater", "leastWay", "(IIZ)I"⟩, 8) := ⟨⟨by decide +kernel, by decide +kernel⟩, List.mem_of_getElem? (i := 21) (by decide +kernel), List.mem_of_getElem? (i := 526) (by decide +kernel), List.mem_of_getElem? (i := 527) (by decide +kernel)⟩
theorem lw_p10 : lw_okq (⟨"DeltaUpdater", "reachBy", "(LDeltaUpdater$Patch;I)V"⟩, 8) := ⟨⟨by decide +kernel, by decide +kernel⟩, List.mem_of_getElem? (i := 21) (by decide +kernel), List.mem_of_getElem? (i := 533) (by decide +kernel), List.mem_of_getElem? (i := 534) (by decide +kernel)⟩
theorem lw_p11 : lw_okq (⟨"DeltaUpdater", "install", "(LDeltaUpdater$Row;)I"⟩, 8) := ⟨⟨by decide +kernel, by decide +kernel⟩, List.mem_of_getElem? (i := 21) (by decide +kernel), List.mem_of_getElem? (i := 551) (by decide +kernel), List.mem_of_getElem? (i := 552) (by decide +kernel)⟩
theorem lw_p12 : lw_okq (⟨"java/util/ArrayList", "fastRemove", "([Ljava/lang/Object;I)V"⟩, 3) := ⟨⟨by decide +kernel, by decide +kernel⟩, List.mem_of_getElem? (i := 29) (by decide +kernel), List.mem_of_getElem? (i := 559) (by decide +kernel), List.mem_of_getElem? (i := 560) (by decide +kernel)⟩
theorem lw_p13 : lw_okq (⟨"DeltaUpdaterModel", "fail", "(I)I"⟩, 12) := ⟨⟨by decide +kernel, by decide +kernel⟩, List.mem_of_getElem? (i := 587) (by decide +kernel), List.mem_of_getElem? (i := 643) (by decide +kernel), List.mem_of_getElem? (i := 644) (by decide +kernel)⟩
theorem lw_p14 : lw_okq (⟨"DeltaUpdaterModel", "keep", "([I)I"⟩, 12) := ⟨⟨by decide +kernel, by decide +kernel⟩, List.mem_of_getElem? (i := 587) (by decide +kernel), List.mem_of_getElem? (i := 653) (by decide +kernel), List.mem_of_getElem? (i := 654) (by decide +kernel)⟩
theorem lw_p15 : lw_okq (⟨"DeltaUpdaterModel", "isVersion", "(I)Z"⟩, 12) := ⟨⟨by decide +kernel, by decide +kernel⟩, List.mem_of_getElem? (i := 587) (by decide +kernel), List.mem_of_getElem? (i := 665) (by decide +kernel), List.mem_of_getElem? (i := 666) (by decide +kernel)⟩
def lw_privs_1 : List (MethodName × Nat) := [(⟨"java/lang/Throwable", "fillInStackTrace", "(I)Ljava/lang/Throwable;"⟩, 6), (⟨"DeltaUpdater", "checkRoomForVersion", "()V"⟩, 8), (⟨"java/util/ArrayList", "add", "(Ljava/lang/Object;[Ljava/lang/Object;I)V"⟩, 3), (⟨"java/util/ArrayList", "grow", "()[Ljava/lang/Object;"⟩, 3), (⟨"java/util/ArrayList", "grow", "(I)[Ljava/lang/Object;"⟩, 3), (⟨"DeltaUpdater", "rowOf", "(I)LDeltaUpdater$Row;"⟩, 8), (⟨"DeltaUpdater", "checkRoomForPatch", "()V"⟩, 8), (⟨"DeltaUpdater", "firstLike", "(I)I"⟩, 8), (⟨"DeltaUpdater", "patchOf", "(I)LDeltaUpdater$Patch;"⟩, 8), (⟨"DeltaUpdater", "leastWay", "(IIZ)I"⟩, 8), (⟨"DeltaUpdater", "reachBy", "(LDeltaUpdater$Patch;I)V"⟩, 8), (⟨"DeltaUpdater", "install", "(LDeltaUpdater$Row;)I"⟩, 8), (⟨"java/util/ArrayList", "fastRemove", "([Ljava/lang/Object;I)V"⟩, 3), (⟨"DeltaUpdaterModel", "fail", "(I)I"⟩, 12), (⟨"DeltaUpdaterModel", "keep", "([I)I"⟩, 12), (⟨"DeltaUpdaterModel", "isVersion", "(I)Z"⟩, 12)]
theorem lw_r1 : ∀ q ∈ lw_privs_1, lw_okq q := List.forall_mem_cons.mpr ⟨lw_p0, List.forall_mem_cons.mpr ⟨lw_p1, List.forall_mem_cons.mpr ⟨lw_p2, List.forall_mem_cons.mpr ⟨lw_p3, List.forall_mem_cons.mpr ⟨lw_p4, List.forall_mem_cons.mpr ⟨lw_p5, List.forall_mem_cons.mpr ⟨lw_p6, List.forall_mem_cons.mpr ⟨lw_p7, List.forall_mem_cons.mpr ⟨lw_p8, List.forall_mem_cons.mpr ⟨lw_p9, List.forall_mem_cons.mpr ⟨lw_p10, List.forall_mem_cons.mpr ⟨lw_p11, List.forall_mem_cons.mpr ⟨lw_p12, List.forall_mem_cons.mpr ⟨lw_p13, List.forall_mem_cons.mpr ⟨lw_p14, List.forall_mem_cons.mpr ⟨lw_p15, fun _ h => absurd h List.not_mem_nil⟩⟩⟩⟩⟩⟩⟩⟩⟩⟩⟩⟩⟩⟩⟩⟩
theorem lw_p16 : lw_okq (⟨"DeltaUpdaterModel", "add", "([I[I[I)I"⟩, 12) := ⟨⟨by decide +kernel, by decide +kernel⟩, List.mem_of_getElem? (i := 587) (by decide +kernel), List.mem_of_getElem? (i := 708) (by decide +kernel), List.mem_of_getElem? (i := 709) (by decide +kernel)⟩
theorem lw_p17 : lw_okq (⟨"DeltaUpdaterModel", "isPatch", "(I)Z"⟩, 12) := ⟨⟨by decide +kernel, by decide +kernel⟩, List.mem_of_getElem? (i := 587) (by decide +kernel), List.mem_of_getElem? (i := 716) (by decide +kernel), List.mem_of_getElem? (i := 717) (by decide +kernel)⟩
theorem lw_p18 : lw_okq (⟨"DeltaUpdaterModel", "many", "(I)I"⟩, 12) := ⟨⟨by decide +kernel, by decide +kernel⟩, List.mem_of_getElem? (i := 587) (by decide +kernel), List.mem_of_getElem? (i := 728) (by decide +kernel), List.mem_of_getElem? (i := 729) (by decide +kernel)⟩
theorem lw_p19 : lw_okq (⟨"DeltaUpdaterModel", "begins", "(II)Z"⟩, 12) := ⟨⟨by decide +kernel, by decide +kernel⟩, List.mem_of_getElem? (i := 587) (by decide +kernel), List.mem_of_getElem? (i := 732) (by decide +kernel), List.mem_of_getElem? (i := 733) (by decide +kernel)⟩
theorem lw_p20 : lw_okq (⟨"DeltaUpdaterModel", "told", "(III)I"⟩, 12) := ⟨⟨by decide +kernel, by decide +kernel⟩, List.mem_of_getElem? (i := 587) (by decide +kernel), List.mem_of_getElem? (i := 740) (by decide +kernel), List.mem_of_getElem? (i := 741) (by decide +kernel)⟩
theorem lw_p21 : lw_okq (⟨"DeltaUpdaterModel", "costOf", "(I)I"⟩, 12) := ⟨⟨by decide +kernel, by decide +kernel⟩, List.mem_of_getElem? (i := 587) (by decide +kernel), List.mem_of_getElem? (i := 748) (by decide +kernel), List.mem_of_getElem? (i := 749) (by decide +kernel)⟩
theorem lw_p22 : lw_okq (⟨"DeltaUpdaterModel", "literals", "(I)I"⟩, 12) := ⟨⟨by decide +kernel, by decide +kernel⟩, List.mem_of_getElem? (i := 587) (by decide +kernel), List.mem_of_getElem? (i := 752) (by decide +kernel), List.mem_of_getElem? (i := 753) (by decide +kernel)⟩
theorem lw_p23 : lw_okq (⟨"DeltaUpdaterModel", "lead", "([I[IZ)I"⟩, 12) := ⟨⟨by decide +kernel, by decide +kernel⟩, List.mem_of_getElem? (i := 587) (by decide +kernel), List.mem_of_getElem? (i := 768) (by decide +kernel), List.mem_of_getElem? (i := 769) (by decide +kernel)⟩
theorem lw_p24 : lw_okq (⟨"DeltaUpdaterModel", "install", "([I)I"⟩, 12) := ⟨⟨by decide +kernel, by decide +kernel⟩, List.mem_of_getElem? (i := 587) (by decide +kernel), List.mem_of_getElem? (i := 780) (by decide +kernel), List.mem_of_getElem? (i := 781) (by decide +kernel)⟩
def lw_privs_2 : List (MethodName × Nat) := [(⟨"DeltaUpdaterModel", "add", "([I[I[I)I"⟩, 12), (⟨"DeltaUpdaterModel", "isPatch", "(I)Z"⟩, 12), (⟨"DeltaUpdaterModel", "many", "(I)I"⟩, 12), (⟨"DeltaUpdaterModel", "begins", "(II)Z"⟩, 12), (⟨"DeltaUpdaterModel", "told", "(III)I"⟩, 12), (⟨"DeltaUpdaterModel", "costOf", "(I)I"⟩, 12), (⟨"DeltaUpdaterModel", "literals", "(I)I"⟩, 12), (⟨"DeltaUpdaterModel", "lead", "([I[IZ)I"⟩, 12), (⟨"DeltaUpdaterModel", "install", "([I)I"⟩, 12)]
theorem lw_r2 : ∀ q ∈ lw_privs_2, lw_okq q := List.forall_mem_cons.mpr ⟨lw_p16, List.forall_mem_cons.mpr ⟨lw_p17, List.forall_mem_cons.mpr ⟨lw_p18, List.forall_mem_cons.mpr ⟨lw_p19, List.forall_mem_cons.mpr ⟨lw_p20, List.forall_mem_cons.mpr ⟨lw_p21, List.forall_mem_cons.mpr ⟨lw_p22, List.forall_mem_cons.mpr ⟨lw_p23, List.forall_mem_cons.mpr ⟨lw_p24, fun _ h => absurd h List.not_mem_nil⟩⟩⟩⟩⟩⟩⟩⟩⟩
def lw_privs : List (MethodName × Nat) := lw_privs_1 ++ (lw_privs_2)
def lw_tbl : List Cond := k2_sels lw_privs ++ tables_1
theorem lw_privs_ok : ∀ q ∈ lw_privs, lw_okq q := by
  show ∀ q ∈ lw_privs_1 ++ (lw_privs_2), lw_okq q
  exact List.forall_mem_append.mpr ⟨lw_r1, lw_r2⟩
/-- the streams that the claim lets the run draw from -/
abbrev lw_cs : List Choice := [Jvm.Choice.named "NaN.bits"]
theorem lw_bits : nanBits ∈ lw_cs := by first | decide | exact List.mem_cons_self | simp [lw_cs, nanBits]
end
section
/-! ===== BEGIN words of one list among another's, by their places ===== -/
theorem goodIn_r {big : List Cond} (ws : List Cond) (ps : List Nat) (hp : ws = ps.filterMap (fun i => big[i]?)) (h : ws.all goodWord = true) : GoodIn big ws := by
  intro w hw
  have h1 := List.all_eq_true.mp h w hw
  rw [hp] at hw
  obtain ⟨i, -, hi⟩ := List.mem_filterMap.mp hw
  have hm : w ∈ big := by first | exact List.mem_of_getElem? hi | exact List.getElem?_mem hi
  exact ⟨hm, good_of_word h1⟩
theorem goodIn_app {big a b : List Cond} (ha : GoodIn big a) (hb : GoodIn big b) : GoodIn big (a ++ b) := fun w h => (List.mem_append.mp h).elim (ha w) (hb w)
theorem goodIn_ca {big a b : List Cond} {c : Cond} (ha : GoodIn big (c :: a)) (hb : GoodIn big b) : GoodIn big (c :: (a ++ b)) := fun w h => (List.mem_cons.mp h).elim (fun e => ha w (List.mem_cons.mpr (Or.inl e))) (fun h => (List.mem_append.mp h).elim (fun h => ha w (List.mem_cons.mpr (Or.inr h))) (hb w))
theorem goodIn_sub {big ws : List Cond} (hm : ∀ w ∈ ws, w ∈ big) (h : ws.all goodWord = true) : GoodIn big ws := fun w hw => ⟨hm w hw, good_of_word (List.all_eq_true.mp h w hw)⟩
/-! ===== END ===== -/

/-! ===== BEGIN exceptions that leave a method, and their catching by the caller (launches without stack traces) ===== -/
section VXA
/-! The laws vx_back, vx_callV, vx_callS, vx_callSW, vx_throw0, vx_throwS follow proofs of the library, with one case more: JvmDerived/Free/Laws.lean (Back.of_free), Shelf42/LK1.lean (callV, callS), Shelf/KitTraced.lean (throwNew0V, throwNewS). -/
/-- where a method has thrown q: the class by its name, the cell, what was written, the world -/
def vx_T (XC : String → State → State → Prop) (st : State) (q : Addr) (t : State) (mc ms : Nat) (free : Addr → Prop) : Prop :=
  ∃ (E : String) (ce : Cell) (L : List Loc), XC E st t ∧ t.heap[q]? = some ce ∧ ce.vm = .none ∧ st.vm.findClass E = some ce.cls ∧ st.WarmedH t.vm ∧ st.sameButNew ({ t with vm := st.vm } : State) L mc ms ∧ ∀ z ∈ L, free z.base
def vx_Q (Qc : Array Value → State → Outcome → State → Prop) (XC : String → State → State → Prop) (mc ms : Nat) (free : Addr → Prop) : Array Value → State → Outcome → State → Prop := fun a st o t =>
  (Qc a st o t ∧ ∃ L, FrameEnd st o t L mc ms ∧ ∀ q ∈ L, free q.base) ∨ ∃ q, o = .threw q ∧ vx_T XC st q t mc ms free
/-- a callee that returns or throws -/
def vx_Met (l : Launch) (y : MethodName) (ws : List Cond) (rm : Room) (Pc : Array Value → State → Prop) (Qc : Array Value → State → Outcome → State → Prop) (XC : String → State → State → Prop) (mc ms : Nat) (free : Addr → Prop) : Prop :=
  MetFree l y (headSpec ws rm) Pc (fun _ _ _ _ _ => True) (vx_Q Qc XC mc ms free)
def vx_Post (XC : String → State → State → Prop) (mc ms : Nat) (free : Addr → Prop) : Pt → Array Value → Addr → Pt → Prop := fun A a q B =>
  ∃ (g : JFrame) (mk : MethodId) (t : State) (L : List Loc) (E : String) (ce : Cell), B.U.heap = t.heap ∧ B.U.vm = t.vm ∧ XC E (A.U.calling g mk a) t ∧ t.heap[q]? = some ce ∧ ce.vm = .none ∧ A.U.vm.findClass E = some ce.cls ∧ B.locs = A.locs ++ L ∧ (∀ z ∈ L, free z.base) ∧ B.cells = A.cells + mc ∧ B.slots = A.slots + ms
def vx_Back (l : Launch) (R : Room) (p : Program) (e : Env) (below : List Frame) (s : State) (sargs : Array Value) (y : MethodName) (len W9 : Nat)
    (Pre : Pt → Array Value → Prop) (Post : Pt → Array Value → Option Value → Pt → Prop) (PostX : Pt → Array Value → Addr → Pt → Prop) : Prop :=
  ∀ (m : MethodId) (meth : Method) (c : Code) (A : Pt) (g : JFrame) (ig : Instr) (mk : MethodId) (a : Array Value),
    Stand p l e R s m sargs below meth c A.U A.locs A.cells A.slots → g.method = m → g.locals.size = c.maxLocals → decode c.code g.pc = .ok (ig, len) →
    2 * g.monitorRoom + (g.stack.map fun v => v.category).sum ≤ W9 → A.U.methodNamed? y = some mk → Pre A a →
    (∃ (v : Option Value) (B : Pt), Stand p l e R s m sargs below meth c B.U B.locs B.cells B.slots ∧ Post A a v B ∧
      Steps p.tables e below (doInvoke e (A.U.setTop g) [] mk a).1 (B.U.setTop { g with pc := g.pc + len, stack := v.toList ++ g.stack })) ∨
    (∃ (q : Addr) (B : Pt), Stand p l e R s m sargs below meth c B.U B.locs B.cells B.slots ∧ PostX A a q B ∧
      Steps p.tables e below (doInvoke e (A.U.setTop g) [] mk a).1 ((B.U.setTop g).pushFrame (.throwing q)))
section Payer
variable {l : Launch} {R : Room} {p : Program} {e : Env} {below : List Frame} {s : State} {sargs : Array Value} {y : MethodName} {len W9 : Nat}
theorem vx_back {ws : List Cond} {rm : Room} {Pc : Array Value → State → Prop} {Qc : Array Value → State → Outcome → State → Prop} {XC : String → State → State → Prop} {mc ms : Nat} {free : Addr → Prop} {bytes : ByteArray} {maxL : Nat} {ret : Option FieldType}
    (hM : vx_Met l y ws rm Pc Qc XC mc ms free) (hblind : FrameBlind Pc) (hrc : rm.cells = mc) (hrs : rm.slots = ms)
    (hframes : rm.frames + 1 ≤ R.frames) (hlocals : W9 + (maxL + 11) + rm.locals ≤ R.locals)
    (hws : ∀ w ∈ ws, ∀ a' U, s.WarmedH U.vm → w.before a' U = true) (hcode : Cond.code y bytes maxL ret ∈ ws) (hinit : ∀ a' U, s.WarmedH U.vm → (Cond.initialized y.cls).before a' U = true) :
    vx_Back l R p e below s sargs y len W9 (PreOf R mc ms Pc) (PostOf Qc mc ms free) (vx_Post XC mc ms free) := by
  intro m meth c A g ig mk a X hg hsize hdg hW hn hp
  have h1 : (headSpec ws rm).pre.before a A.U = true := atoms_intro fun w hw => hws w hw _ _ X.warmed
  have h2 : (Cond.code y bytes maxL ret).before a A.U = true := hws _ hcode _ _ X.warmed
  have h3 : (Cond.initialized y.cls).before a A.U = true := hinit _ _ X.warmed
  have h4 : A.cells + (headSpec ws rm).room.cells ≤ R.cells := by rw [show (headSpec ws rm).room.cells = mc from hrc]; exact hp.1
  have h5 : A.slots + (headSpec ws rm).room.slots ≤ R.slots := by rw [show (headSpec ws rm).room.slots = ms from hrs]; exact hp.2.1
  have hPc : Pc a (A.U.calling g mk a) := hblind _ _ _ _ hp.2.2
  obtain ⟨U, Ls, c0, s0⟩ := A
  dsimp only [Pt.U, Pt.locs, Pt.cells, Pt.slots] at h1 h2 h3 h4 h5 X hn hPc ⊢
  obtain ⟨methY, cY, hmY, hcY, -, hlY, -, -, -, -⟩ := Cond.code_spec hn h2
  obtain ⟨kY, hkY, -⟩ := className_of_methodNamed hn
  have hinitY : kY.init = .initialized := Cond.initialized_spec (findClass_of_methodNamed hn) hkY h3
  have h : At U g.method c below := by rw [hg]; exact X.here
  have hlocals9 : W9 + (maxL + 11) + (headSpec ws rm).room.locals ≤ R.locals := hlocals
  have happ : (headSpec ws rm).appliesLoose y e.platform (U.calling g mk a) = true :=
    Spec.appliesLoose_calling (g := g) h hdg hn hkY hinitY
      (X.room_calling (g := g) (R' := (headSpec ws rm).room) hsize hmY hcY hframes (by rw [hlY]; omega) h4 h5) h1
  obtain ⟨mid, hmid⟩ := h.above
  have hfr : (U.setTop g).frames = (.java g :: mid) ++ below := by rw [State.frames_setTop' g h.top, hmid]; rfl
  obtain ⟨o, s₂, hsteps, -, hend, hq⟩ := Steps.callFree hM p X.admits X.cas X.clock (acts := []) hfr happ hPc trivial
  have hq' : vx_Q Qc XC mc ms free a (U.calling g mk a) o s₂ := hq
  rw [State.frames_setTop' g h.top] at hend
  obtain ⟨g₀, hg0⟩ := Option.isSome_iff_exists.mp h.top
  obtain ⟨r, hr⟩ := State.topJava?_eq_some.mp hg0
  have hr' : (({ U with heap := s₂.heap, slotsUsed := s₂.slotsUsed } : State).setVm s₂.vm).frames = .java g₀ :: r := hr
  rcases hq' with ⟨hqc, L, hfe, hL⟩ | ⟨q, rfl, E, ce, L, hx, hce, hcv, hcl, hW₂, hsm, hL⟩
  · obtain ⟨⟨v, rfl⟩, hW₂, e2, q2, q3, q4, q5, q6⟩ := id hfe
    have e3 : s₂ = ({ (U.calling g mk a).setFrames s₂.frames with heap := s₂.heap, slotsUsed := s₂.slotsUsed } : State).setVm s₂.vm := by
      have : s₂ = ({ s₂ with vm := (U.calling g mk a).vm } : State).setVm s₂.vm := rfl
      rw [e2] at this
      exact this
    obtain ⟨c₂, i₂, len₂, hc₂, hd₂, hf₂⟩ := hend
    have hW' : U.WarmedH s₂.vm := hW₂
    have hcc : c₂ = c := by
      have h1 : s₂.code? g.method = U.code? g.method := by
        rw [State.code?_eq, State.code?_eq, hW'.alike.method?]
      exact Option.some.inj (hc₂.symm.trans (h1.trans h.code))
    subst hcc
    have hlen : len₂ = len := by rw [hdg] at hd₂; cases hd₂; rfl
    subst hlen
    have hs₂ : s₂ = (({ U with heap := s₂.heap, slotsUsed := s₂.slotsUsed } : State).setVm s₂.vm).setTop { g with pc := g.pc + len₂, stack := v.toList ++ g.stack } := by
      refine e3.trans ?_
      rw [hf₂, State.calling_eq h.top, State.setFrames_setFrames, State.setTop_of_frames _ hr', hr]
      rfl
    have hsame : U.sameButNew ({ U with heap := s₂.heap, slotsUsed := s₂.slotsUsed } : State) L mc ms := by
      refine ⟨?_, q2, q3, q4, q5, q6⟩
      obtain ⟨t, ht, -⟩ := State.frames_cons hr
      show ({ U with heap := s₂.heap, slotsUsed := s₂.slotsUsed } : State) = { U.setFrames U.frames with heap := s₂.heap, slotsUsed := s₂.slotsUsed }
      rw [State.setFrames_self ht]
    subst hg
    refine Or.inl ⟨v, ⟨(({ U with heap := s₂.heap, slotsUsed := s₂.slotsUsed } : State).setVm s₂.vm), Ls ++ L, c0 + mc, s0 + ms⟩,
      ⟨X.admits, X.cas, X.clock, X.frames, X.room, X.hears, X.method, X.code, (X.here.setHeapUsed s₂.heap s₂.slotsUsed).setVm hW'.alike, X.tail, State.WarmedH.trans X.warmed hW', X.limits, X.bytes, X.same.trans (hsame.setVm s.vm)⟩,
      ⟨g, mk, s₂, L, rfl, rfl, hqc, rfl, hL, rfl, rfl⟩, ?_⟩
    show Steps p.tables e below _ ((({ U with heap := s₂.heap, slotsUsed := s₂.slotsUsed } : State).setVm s₂.vm).setTop { g with pc := g.pc + len₂, stack := v.toList ++ g.stack })
    rw [← hs₂]
    exact hsteps
  · obtain ⟨e2, q2, q3, q4, q5, q6⟩ := id hsm
    have e3 : s₂ = ({ (U.calling g mk a).setFrames s₂.frames with heap := s₂.heap, slotsUsed := s₂.slotsUsed } : State).setVm s₂.vm := by
      have : s₂ = ({ s₂ with vm := (U.calling g mk a).vm } : State).setVm s₂.vm := rfl
      rw [e2] at this
      exact this
    have hf₂ : s₂.frames = .throwing q :: .java g :: U.frames.tail := hend
    have hW' : U.WarmedH s₂.vm := hW₂
    have hs₂ : s₂ = ((({ U with heap := s₂.heap, slotsUsed := s₂.slotsUsed } : State).setVm s₂.vm).setTop g).pushFrame (.throwing q) := by
      refine e3.trans ?_
      rw [hf₂, State.calling_eq h.top, State.setFrames_setFrames, State.pushFrame, State.frames_setTop _ hr', State.setTop_of_frames _ hr', State.setFrames_setFrames, hr]
      rfl
    have hsame : U.sameButNew ({ U with heap := s₂.heap, slotsUsed := s₂.slotsUsed } : State) L mc ms := by
      refine ⟨?_, q2, q3, q4, q5, q6⟩
      obtain ⟨t, ht, -⟩ := State.frames_cons hr
      show ({ U with heap := s₂.heap, slotsUsed := s₂.slotsUsed } : State) = { U.setFrames U.frames with heap := s₂.heap, slotsUsed := s₂.slotsUsed }
      rw [State.setFrames_self ht]
    subst hg
    refine Or.inr ⟨q, ⟨(({ U with heap := s₂.heap, slotsUsed := s₂.slotsUsed } : State).setVm s₂.vm), Ls ++ L, c0 + mc, s0 + ms⟩,
      ⟨X.admits, X.cas, X.clock, X.frames, X.room, X.hears, X.method, X.code, (X.here.setHeapUsed s₂.heap s₂.slotsUsed).setVm hW'.alike, X.tail, State.WarmedH.trans X.warmed hW', X.limits, X.bytes, X.same.trans (hsame.setVm s.vm)⟩,
      ⟨g, mk, s₂, L, E, ce, rfl, rfl, hx, hce, hcv, hcl, rfl, hL, rfl, rfl⟩, ?_⟩
    show Steps p.tables e below _ (((({ U with heap := s₂.heap, slotsUsed := s₂.slotsUsed } : State).setVm s₂.vm).setTop g).pushFrame (.throwing q))
    rw [← hs₂]
    exact hsteps
end Payer
section Calls
variable {p : Program} {l : Launch} {e : Env} {R : Room} {s : State} {m : MethodId} {args : Array Value} {below : List Frame} {meth : Method} {c : Code} {T : State} {locs : List Loc} {cells slots : Nat}
theorem vx_callV (X : Stand p l e R s m args below meth c T locs cells slots) (hexec : p.tables.exec = Jvm.exec) {own C : String} {index : Nat} {y : MethodName} {bytes : ByteArray} {maxL : Nat} {ret : Option FieldType}
    (hown : s.vm.findClass own = some m.cls) (hlink : (Cond.methodLink own index y).before args s = true) (hinst : (Cond.instanceMethod y).before args s = true) (hsel : (Cond.selects C y y).before args s = true)
    (hcode : (Cond.code y bytes maxL ret).before args s = true) (hy : y.cls ≠ "java/lang/invoke/MethodHandle" ∧ y.cls ≠ "java/lang/invoke/VarHandle")
    {W9 : Nat} {Pre : Pt → Array Value → Prop} {Post : Pt → Array Value → Option Value → Pt → Prop} {PostX : Pt → Array Value → Addr → Pt → Prop} (hK : vx_Back l R p e below s args y 3 W9 Pre Post PostX)
    {b : Addr} {cellB : Cell} (hcell : T.heap[b]? = some cellB) (hobj : cellB.vm.isStatics = false) (hcls : s.vm.findClass C = some cellB.cls)
    {g : JFrame} (hg : g.method = m) (hsize : g.locals.size = c.maxLocals) {argsL rest : List Value} (hlen : ∀ sig, parseMethodDescriptor y.desc = some sig → argsL.length = sig.parameters.length)
    (hstack : g.stack = argsL.reverse ++ .ref b :: rest) (hW : 2 * g.monitorRoom + (rest.map fun v => v.category).sum ≤ W9) (hdg : decode c.code g.pc = .ok (.invokevirtual index, 3))
    (hpre : ∀ vm₁, s.WarmedH vm₁ → Pre ⟨T.setVm vm₁, locs, cells, slots⟩ (Value.ref b :: argsL).toArray) :
    (∃ (v : Option Value) (vm₁ : Vm) (B : Pt), s.WarmedH vm₁ ∧ Stand p l e R s m args below meth c B.U B.locs B.cells B.slots ∧ Post ⟨T.setVm vm₁, locs, cells, slots⟩ (Value.ref b :: argsL).toArray v B ∧
      ∀ target, Steps p.tables e below (B.U.setTop { g with pc := g.pc + 3, stack := v.toList ++ rest }) target → Steps p.tables e below (T.setTop g) target) ∨
    (∃ (q : Addr) (vm₁ : Vm) (B : Pt), s.WarmedH vm₁ ∧ Stand p l e R s m args below meth c B.U B.locs B.cells B.slots ∧ PostX ⟨T.setVm vm₁, locs, cells, slots⟩ (Value.ref b :: argsL).toArray q B ∧
      Steps p.tables e below (T.setTop g) ((B.U.setTop { g with stack := rest }).pushFrame (.throwing q))) := by
  obtain ⟨mk, methM, hnamed, hmethM, hstM, habM⟩ := Cond.instanceMethod_spec hinst
  obtain ⟨methM', cM, hmethM', -, -, -, -, -, -, hsigM⟩ := Cond.code_spec hnamed hcode
  cases hmethM.symm.trans hmethM'
  obtain ⟨c2, r2, m2, q1, q2, q3, q4, kP, hkP, hkPi⟩ := Cond.selects_spec hsel
  cases hcls.symm.trans q1
  cases (State.methodFound?_of_named hnamed hy).symm.trans q2
  cases hnamed.symm.trans q3
  have hselP : selectMethod e.platform s.vm cellB.cls mk = .method mk := by rw [Launch.admits_selectMethod X.admits]; exact q4
  obtain ⟨vm₁, X₁, hstep₁⟩ := X.invokevirtual hexec hown hlink hnamed hmethM hstM hkP hkPi hy (a := b) (cell := cellB) hcell
    (fun z h => by rw [h] at hobj; cases hobj) hselP hmethM habM hkP hkPi (g := g) hg (argsL := argsL) (rest := rest) (hlen _ hsigM) hstack hdg
  rcases hK m meth c ⟨T.setVm vm₁, locs, cells, slots⟩ { g with stack := rest } (.invokevirtual index) mk (Value.ref b :: argsL).toArray X₁ hg hsize hdg hW (X₁.named hnamed) (hpre vm₁ X₁.warmed) with ⟨v, B, X', hpost, hsteps⟩ | ⟨q, B, X', hpost, hsteps⟩
  · exact Or.inl ⟨v, vm₁, B, X₁.warmed, X', hpost, fun target h => hstep₁ _ fun acts => by rw [doInvoke_state]; exact hsteps.trans h⟩
  · exact Or.inr ⟨q, vm₁, B, X₁.warmed, X', hpost, hstep₁ _ fun acts => by rw [doInvoke_state]; exact hsteps⟩
theorem vx_callS (X : Stand p l e R s m args below meth c T locs cells slots) (hexec : p.tables.exec = Jvm.exec) {own : String} {index : Nat} {y : MethodName} {bytes : ByteArray} {maxL : Nat} {ret : Option FieldType}
    (hown : s.vm.findClass own = some m.cls) (hlink : (Cond.methodLink own index y).before args s = true) (hstat : (Cond.static y).before args s = true) (hinit : (Cond.initialized y.cls).before args s = true)
    (hcode : (Cond.code y bytes maxL ret).before args s = true) (hy : y.cls ≠ "java/lang/invoke/MethodHandle" ∧ y.cls ≠ "java/lang/invoke/VarHandle")
    {W9 : Nat} {Pre : Pt → Array Value → Prop} {Post : Pt → Array Value → Option Value → Pt → Prop} {PostX : Pt → Array Value → Addr → Pt → Prop} (hK : vx_Back l R p e below s args y 3 W9 Pre Post PostX)
    {g : JFrame} (hg : g.method = m) (hsize : g.locals.size = c.maxLocals) {argsL rest : List Value} (hlen : ∀ sig, parseMethodDescriptor y.desc = some sig → argsL.length = sig.parameters.length)
    (hstack : g.stack = argsL.reverse ++ rest) (hW : 2 * g.monitorRoom + (rest.map fun v => v.category).sum ≤ W9) (hdg : decode c.code g.pc = .ok (.invokestatic index, 3))
    (hpre : ∀ vm₁, s.WarmedH vm₁ → Pre ⟨T.setVm vm₁, locs, cells, slots⟩ argsL.toArray) :
    (∃ (v : Option Value) (vm₁ : Vm) (B : Pt), s.WarmedH vm₁ ∧ Stand p l e R s m args below meth c B.U B.locs B.cells B.slots ∧ Post ⟨T.setVm vm₁, locs, cells, slots⟩ argsL.toArray v B ∧
      ∀ target, Steps p.tables e below (B.U.setTop { g with pc := g.pc + 3, stack := v.toList ++ rest }) target → Steps p.tables e below (T.setTop g) target) ∨
    (∃ (q : Addr) (vm₁ : Vm) (B : Pt), s.WarmedH vm₁ ∧ Stand p l e R s m args below meth c B.U B.locs B.cells B.slots ∧ PostX ⟨T.setVm vm₁, locs, cells, slots⟩ argsL.toArray q B ∧
      Steps p.tables e below (T.setTop g) ((B.U.setTop { g with stack := rest }).pushFrame (.throwing q))) := by
  obtain ⟨mk, hnamed⟩ := Cond.code_named hcode
  obtain ⟨methM, cM, hmethM, -, -, -, -, -, -, hsigM⟩ := Cond.code_spec hnamed hcode
  have hstatic : methM.isStatic = true := Cond.static_spec hnamed hmethM hstat
  obtain ⟨kP, hkP, -⟩ := className_of_methodNamed hnamed
  have hinitP : kP.init = .initialized := Cond.initialized_spec (findClass_of_methodNamed hnamed) hkP hinit
  obtain ⟨vm₁, X₁, hstep₁⟩ := X.invokestatic hexec hown hlink hnamed hmethM hstatic hkP hinitP hy (g := g) hg (argsL := argsL) (rest := rest) (hlen _ hsigM) hstack hdg
  rcases hK m meth c ⟨T.setVm vm₁, locs, cells, slots⟩ { g with stack := rest } (.invokestatic index) mk argsL.toArray X₁ hg hsize hdg hW (X₁.named hnamed) (hpre vm₁ X₁.warmed) with ⟨v, B, X', hpost, hsteps⟩ | ⟨q, B, X', hpost, hsteps⟩
  · exact Or.inl ⟨v, vm₁, B, X₁.warmed, X', hpost, fun target h => hstep₁ _ fun acts => by rw [doInvoke_state]; exact hsteps.trans h⟩
  · exact Or.inr ⟨q, vm₁, B, X₁.warmed, X', hpost, hstep₁ _ fun acts => by rw [doInvoke_state]; exact hsteps⟩
end Calls
theorem vx_cls {s : State} {T : State} {vm₁ : Vm} {E : String} {k : ClassId} (hW : s.WarmedH vm₁) (h : (T.setVm vm₁).vm.findClass E = some k) : s.vm.findClass E = some k := by
  have h1 : vm₁.findClass E = some k := h
  rw [hW.alike.findClass] at h1
  exact h1
/-- the method's frame g, with q thrown over it -/
def vx_W (p : Program) (l : Launch) (e : Env) (R : Room) (s : State) (m : MethodId) (args : Array Value) (below : List Frame) (meth : Method) (c : Code) (H : Heap) (locs : List Loc) (cells slots : Nat) (Q : State → Prop) (g : JFrame) (q : Addr) : Prop :=
  ∀ T : State, T.heap = H → Stand p l e R s m args below meth c T locs cells slots → ∃ t, Steps p.tables e below ((T.setTop g).pushFrame (.throwing q)) t ∧ Q t
def vx_Run (p : Program) (l : Launch) (e : Env) (R : Room) (s : State) (m : MethodId) (args : Array Value) (below : List Frame) (meth : Method) (c : Code) (H : Heap) (locs : List Loc) (cells slots mc ms : Nat) (g : JFrame) (rest : List Value) (Qa : State → Outcome → State → Prop) (XC : String → State → State → Prop) (free : Addr → Prop) : Prop :=
  ∀ T : State, T.heap = H → Stand p l e R s m args below meth c T locs cells slots →
    (∃ (v : Option Value) (st₀ t T' : State) (L : List Loc), st₀.heap = H ∧ Stand p l e R s m args below meth c T' (locs ++ L) (cells + mc) (slots + ms) ∧ (∀ q ∈ L, free q.base) ∧ T'.heap = t.heap ∧ T'.vm = t.vm ∧ Qa st₀ (.returned v) t ∧
      Goes p e below T g T' { g with pc := g.pc + 3, stack := v.toList ++ rest }) ∨
    (∃ (q : Addr) (st₀ t T' : State) (L : List Loc) (E : String) (ce : Cell), st₀.heap = H ∧ Stand p l e R s m args below meth c T' (locs ++ L) (cells + mc) (slots + ms) ∧ (∀ z ∈ L, free z.base) ∧ T'.heap = t.heap ∧ T'.vm = t.vm ∧ XC E st₀ t ∧ t.heap[q]? = some ce ∧ ce.vm = .none ∧ s.vm.findClass E = some ce.cls ∧
      Steps p.tables e below (T.setTop g) ((T'.setTop { g with stack := rest }).pushFrame (.throwing q)))
def vx_X {S : Type} (px : S → Prop) (B : String → S → State → Prop) (A : Nat → Prop) : String → State → State → Prop := fun E st t => ∃ u : S, px u ∧ B E u t ∧ va_F A st t
section Runs
variable {p : Program} {l : Launch} {e : Env} {R : Room} {s : State} {m : MethodId} {args : Array Value} {below : List Frame} {meth : Method} {c : Code} {H : Heap} {locs : List Loc} {cells slots : Nat}
variable {y : MethodName} {bytes cc : ByteArray} {maxL nL mc ms n index : Nat} {ret : Option FieldType} {ws : List Cond} {rm : Room} {Pc : Array Value → State → Prop} {Qc : Array Value → State → Outcome → State → Prop} {XC : String → State → State → Prop} {free : Addr → Prop} {Ts : List Cond} {own C : String} {b : Addr} {As rest : List Value} {g : JFrame}
theorem vx_callBack (cb : CallB R s args own index y bytes maxL ret ws rm mc ms n) (hM : vx_Met l y ws rm Pc Qc XC mc ms free) (hbl : FrameBlind Pc) : vx_Back l R p e below s args y 3 8 (PreOf R mc ms Pc) (PostOf Qc mc ms free) (vx_Post XC mc ms free) := by
  obtain ⟨hrc, hrs, hfr, hlo, hws, hcw, -, hini, -⟩ := cb
  exact vx_back (bytes := bytes) (maxL := maxL) (ret := ret) hM hbl hrc hrs hfr hlo hws hcw (fun a' U hW => word_at hW (Or.inl (by first | rfl | simp [Cond.onTables, Cond.keeps, Cond.steady])) hini)
theorem vx_runV (S : CallFix p m c cc nL s args Ts own) (hM : vx_Met l y ws rm Pc Qc XC mc ms free) (cw : CallW R s args own C index y bytes maxL ret ws rm mc ms n) (hp : PreV s H C b Pc As)
    (hg : g.method = m) (hn : As.length = n) (hsize : g.locals.size = nL) (hstack : g.stack = As.reverse ++ .ref b :: rest) (hW : 2 * g.monitorRoom + (rest.map fun v => v.category).sum ≤ 8) (hdg : decode cc g.pc = .ok (.invokevirtual index, 3)) (hf : cells + mc ≤ R.cells ∧ slots + ms ≤ R.slots) :
    vx_Run p l e R s m args below meth c H locs cells slots mc ms g rest (Qc (Value.ref b :: As).toArray) XC free := by
  have hK : vx_Back l R p e below s args y 3 8 (PreOf R mc ms Pc) (PostOf Qc mc ms free) (vx_Post XC mc ms free) := vx_callBack cw.1 hM hp.1
  obtain ⟨⟨-, -, -, -, -, -, hcode, -, hy, hlen, hl⟩, hin, hse⟩ := cw
  obtain ⟨hx, hb, hml, ho, -⟩ := S
  obtain ⟨-, ⟨cellB, hcB, hoB, hclB⟩, hPc⟩ := hp
  intro T hT X
  rcases vx_callV X hx (C := C) (bytes := bytes) (maxL := maxL) (ret := ret) ho hl hin hse hcode hy hK (by rw [hT]; exact hcB) hoB hclB hg (hsize.trans hml.symm) (argsL := As) (rest := rest) (fun sig h => hn.trans (hlen sig h)) hstack hW (by rw [hb]; exact hdg)
    (fun vm₁ hW₁ => ⟨hf.1, hf.2, hPc (T.setVm vm₁) hT hW₁⟩) with ⟨v, vm₁, ⟨U', l2, c2, s2⟩, hW₁, X', ⟨g', mk, t, L, e1, e2, hq, h1, hL, h2, h3⟩, st⟩ | ⟨q, vm₁, ⟨U', l2, c2, s2⟩, hW₁, X', ⟨g', mk, t, L, E, ce, e1, e2, hq, hce, hcv, hcl, h1, hL, h2, h3⟩, st⟩
  · dsimp only [Pt.U, Pt.locs, Pt.cells, Pt.slots] at X' e1 e2 h1 h2 h3 st
    subst h1; subst h2; subst h3
    exact Or.inl ⟨v, (T.setVm vm₁).calling g' mk (Value.ref b :: As).toArray, t, U', L, hT, X', hL, e1, e2, hq, st⟩
  · dsimp only [Pt.U, Pt.locs, Pt.cells, Pt.slots] at X' e1 e2 h1 h2 h3 st hcl
    subst h1; subst h2; subst h3
    exact Or.inr ⟨q, (T.setVm vm₁).calling g' mk (Value.ref b :: As).toArray, t, U', L, E, ce, hT, X', hL, e1, e2, hq, hce, hcv, vx_cls hW₁ hcl, st⟩
theorem vx_runS (S : CallFix p m c cc nL s args Ts own) (hM : vx_Met l y ws rm Pc Qc XC mc ms free) (cw : CallB R s args own index y bytes maxL ret ws rm mc ms n ∧ (Cond.static y).before args s = true) (hp : PreS s H Pc As)
    (hg : g.method = m) (hn : As.length = n) (hsize : g.locals.size = nL) (hstack : g.stack = As.reverse ++ rest) (hW : 2 * g.monitorRoom + (rest.map fun v => v.category).sum ≤ 8) (hdg : decode cc g.pc = .ok (.invokestatic index, 3)) (hf : cells + mc ≤ R.cells ∧ slots + ms ≤ R.slots) :
    vx_Run p l e R s m args below meth c H locs cells slots mc ms g rest (Qc As.toArray) XC free := by
  have hK : vx_Back l R p e below s args y 3 8 (PreOf R mc ms Pc) (PostOf Qc mc ms free) (vx_Post XC mc ms free) := vx_callBack cw.1 hM hp.1
  obtain ⟨⟨-, -, -, -, -, -, hcode, hini, hy, hlen, hl⟩, hstt⟩ := cw
  obtain ⟨hx, hb, hml, ho, -⟩ := S
  intro T hT X
  rcases vx_callS X hx (bytes := bytes) (maxL := maxL) (ret := ret) ho hl hstt hini hcode hy hK hg (hsize.trans hml.symm) (argsL := As) (rest := rest) (fun sig h => hn.trans (hlen sig h)) hstack hW (by rw [hb]; exact hdg)
    (fun vm₁ hW₁ => ⟨hf.1, hf.2, hp.2 (T.setVm vm₁) hT hW₁⟩) with ⟨v, vm₁, ⟨U', l2, c2, s2⟩, hW₁, X', ⟨g', mk, t, L, e1, e2, hq, h1, hL, h2, h3⟩, st⟩ | ⟨q, vm₁, ⟨U', l2, c2, s2⟩, hW₁, X', ⟨g', mk, t, L, E, ce, e1, e2, hq, hce, hcv, hcl, h1, hL, h2, h3⟩, st⟩
  · dsimp only [Pt.U, Pt.locs, Pt.cells, Pt.slots] at X' e1 e2 h1 h2 h3 st
    subst h1; subst h2; subst h3
    exact Or.inl ⟨v, (T.setVm vm₁).calling g' mk As.toArray, t, U', L, hT, X', hL, e1, e2, hq, st⟩
  · dsimp only [Pt.U, Pt.locs, Pt.cells, Pt.slots] at X' e1 e2 h1 h2 h3 st hcl
    subst h1; subst h2; subst h3
    exact Or.inr ⟨q, (T.setVm vm₁).calling g' mk As.toArray, t, U', L, E, ce, hT, X', hL, e1, e2, hq, hce, hcv, vx_cls hW₁ hcl, st⟩
end Runs
section Rows
variable {p : Program} {l : Launch} {e : Env} {R : Room} {s : State} {m : MethodId} {args : Array Value} {below : List Frame} {meth : Method} {c : Code} {H : Heap} {locs : List Loc} {cells slots : Nat} {Q : State → Prop}
variable {mc ms : Nat} {free : Addr → Prop} {A0 A1 : Nat → Prop} {H0 : Heap} {a : Array Value} {pc : Nat} {ls : Array Slot} {st0 rest : List Value}
theorem vx_keep {st₀ t T' : State} {L : List Loc} (h0 : st₀.heap = H) (e1 : T'.heap = t.heap) (hS : va_S A0 H0 H locs) (hA : ∀ q, q < H.size → A1 q → A0 q) (hf : ∀ q, free q → A0 q) (hL : ∀ q ∈ L, free q.base) (hF : va_F A1 st₀ t) :
    H.size ≤ T'.heap.size ∧ (∀ q : Nat, q < H.size → ¬ A1 q → T'.heap[q]? = H[q]?) ∧ va_S A0 H0 T'.heap (locs ++ L) := by
  obtain ⟨hz, hk⟩ := hF
  rw [h0] at hz hk
  exact ⟨by rw [e1]; exact hz, fun q h1 h2 => by rw [e1]; exact hk q h1 h2,
    ⟨Nat.le_trans hS.1 (by rw [e1]; exact hz), fun q h1 h2 => by rw [e1, hk q (Nat.lt_of_lt_of_le h1 hS.1) (fun z => h2 (hA q (Nat.lt_of_lt_of_le h1 hS.1) z))]; exact hS.2.1 q h1 h2, fun q hq => by
      rcases List.mem_append.mp hq with h | h
      · exact hS.2.2 q h
      · exact hf _ (hL q h)⟩⟩
theorem vx_calli {S SX : Type} {post : Int32 → S → Prop} {px : SX → Prop} {B : S → State → Prop} {BX : String → SX → State → Prop} {AX : Nat → Prop} (hr : vx_Run p l e R s m args below meth c H locs cells slots mc ms (F0 m pc ls st0) rest (va_Qi post B A1 a) (vx_X px BX AX) free) (hS : va_S A0 H0 H locs) (hA : ∀ q, q < H.size → A1 q → A0 q) (hf : ∀ q, free q → A0 q) (hAX : ∀ q, q < H.size → AX q → A0 q)
    (kx : ∀ (E : String) (ce : Cell) (q9 : Addr) (u : SX) (t : State) (H1 : Heap) (locs1 : List Loc), t.heap = H1 → s.vm.Alike t.vm → px u → BX E u t → H.size ≤ H1.size → (∀ q : Nat, q < H.size → ¬ AX q → H1[q]? = H[q]?) → va_S A0 H0 H1 locs1 → H1[q9]? = some ce → ce.vm = .none → s.vm.findClass E = some ce.cls → vx_W p l e R s m args below meth c H1 locs1 (cells + mc) (slots + ms) Q (F0 m pc ls rest) q9)
    (kk : ∀ (r : Int32) (u : S) (t : State) (H1 : Heap) (locs1 : List Loc), t.heap = H1 → s.vm.Alike t.vm → post r u → B u t → H.size ≤ H1.size → (∀ q : Nat, q < H.size → ¬ A1 q → H1[q]? = H[q]?) → va_S A0 H0 H1 locs1 → W p l e R s m args below meth c H1 locs1 (cells + mc) (slots + ms) Q (F0 m (pc + 3) ls (.int r :: rest))) : W p l e R s m args below meth c H locs cells slots Q (F0 m pc ls st0) := by
  intro T hT X
  rcases hr T hT X with ⟨v, st₀, t, T', L, h0, X', hL, e1, e2, ⟨⟨r, u, hv, hp, hb⟩, hF⟩, st⟩ | ⟨q, st₀, t, T', L, E, ce, h0, X', hL, e1, e2, ⟨u, hp, hb, hF⟩, hce, hcv, hcl, st⟩
  · cases hv
    obtain ⟨k1, k2, k3⟩ := vx_keep h0 e1 hS hA hf hL hF
    obtain ⟨t2, a1, b1⟩ := kk r u t T'.heap (locs ++ L) e1.symm (by rw [← e2]; exact X'.warmed.alike) hp hb k1 k2 k3 T' rfl X'
    exact ⟨t2, st t2 a1, b1⟩
  · obtain ⟨k1, k2, k3⟩ := vx_keep h0 e1 hS hAX hf hL hF
    obtain ⟨t2, a1, b1⟩ := kx E ce q u t T'.heap (locs ++ L) e1.symm (by rw [← e2]; exact X'.warmed.alike) hp hb k1 k2 k3 (by rw [e1]; exact hce) hcv hcl T' rfl X'
    exact ⟨t2, st.trans a1, b1⟩
theorem vx_calll {S SX : Type} {post : Int64 → S → Prop} {px : SX → Prop} {B : S → State → Prop} {BX : String → SX → State → Prop} {AX : Nat → Prop} (hr : vx_Run p l e R s m args below meth c H locs cells slots mc ms (F0 m pc ls st0) rest (va_Ql post B A1 a) (vx_X px BX AX) free) (hS : va_S A0 H0 H locs) (hA : ∀ q, q < H.size → A1 q → A0 q) (hf : ∀ q, free q → A0 q) (hAX : ∀ q, q < H.size → AX q → A0 q)
    (kx : ∀ (E : String) (ce : Cell) (q9 : Addr) (u : SX) (t : State) (H1 : Heap) (locs1 : List Loc), t.heap = H1 → s.vm.Alike t.vm → px u → BX E u t → H.size ≤ H1.size → (∀ q : Nat, q < H.size → ¬ AX q → H1[q]? = H[q]?) → va_S A0 H0 H1 locs1 → H1[q9]? = some ce → ce.vm = .none → s.vm.findClass E = some ce.cls → vx_W p l e R s m args below meth c H1 locs1 (cells + mc) (slots + ms) Q (F0 m pc ls rest) q9)
    (kk : ∀ (r : Int64) (u : S) (t : State) (H1 : Heap) (locs1 : List Loc), t.heap = H1 → s.vm.Alike t.vm → post r u → B u t → H.size ≤ H1.size → (∀ q : Nat, q < H.size → ¬ A1 q → H1[q]? = H[q]?) → va_S A0 H0 H1 locs1 → W p l e R s m args below meth c H1 locs1 (cells + mc) (slots + ms) Q (F0 m (pc + 3) ls (.long r :: rest))) : W p l e R s m args below meth c H locs cells slots Q (F0 m pc ls st0) := by
  intro T hT X
  rcases hr T hT X with ⟨v, st₀, t, T', L, h0, X', hL, e1, e2, ⟨⟨r, u, hv, hp, hb⟩, hF⟩, st⟩ | ⟨q, st₀, t, T', L, E, ce, h0, X', hL, e1, e2, ⟨u, hp, hb, hF⟩, hce, hcv, hcl, st⟩
  · cases hv
    obtain ⟨k1, k2, k3⟩ := vx_keep h0 e1 hS hA hf hL hF
    obtain ⟨t2, a1, b1⟩ := kk r u t T'.heap (locs ++ L) e1.symm (by rw [← e2]; exact X'.warmed.alike) hp hb k1 k2 k3 T' rfl X'
    exact ⟨t2, st t2 a1, b1⟩
  · obtain ⟨k1, k2, k3⟩ := vx_keep h0 e1 hS hAX hf hL hF
    obtain ⟨t2, a1, b1⟩ := kx E ce q u t T'.heap (locs ++ L) e1.symm (by rw [← e2]; exact X'.warmed.alike) hp hb k1 k2 k3 (by rw [e1]; exact hce) hcv hcl T' rfl X'
    exact ⟨t2, st.trans a1, b1⟩
theorem vx_callf {S SX : Type} {post : UInt32 → S → Prop} {px : SX → Prop} {B : S → State → Prop} {BX : String → SX → State → Prop} {AX : Nat → Prop} (hr : vx_Run p l e R s m args below meth c H locs cells slots mc ms (F0 m pc ls st0) rest (va_Qf post B A1 a) (vx_X px BX AX) free) (hS : va_S A0 H0 H locs) (hA : ∀ q, q < H.size → A1 q → A0 q) (hf : ∀ q, free q → A0 q) (hAX : ∀ q, q < H.size → AX q → A0 q)
    (kx : ∀ (E : String) (ce : Cell) (q9 : Addr) (u : SX) (t : State) (H1 : Heap) (locs1 : List Loc), t.heap = H1 → s.vm.Alike t.vm → px u → BX E u t → H.size ≤ H1.size → (∀ q : Nat, q < H.size → ¬ AX q → H1[q]? = H[q]?) → va_S A0 H0 H1 locs1 → H1[q9]? = some ce → ce.vm = .none → s.vm.findClass E = some ce.cls → vx_W p l e R s m args below meth c H1 locs1 (cells + mc) (slots + ms) Q (F0 m pc ls rest) q9)
    (kk : ∀ (r : UInt32) (u : S) (t : State) (H1 : Heap) (locs1 : List Loc), t.heap = H1 → s.vm.Alike t.vm → post r u → B u t → H.size ≤ H1.size → (∀ q : Nat, q < H.size → ¬ A1 q → H1[q]? = H[q]?) → va_S A0 H0 H1 locs1 → W p l e R s m args below meth c H1 locs1 (cells + mc) (slots + ms) Q (F0 m (pc + 3) ls (.float r :: rest))) : W p l e R s m args below meth c H locs cells slots Q (F0 m pc ls st0) := by
  intro T hT X
  rcases hr T hT X with ⟨v, st₀, t, T', L, h0, X', hL, e1, e2, ⟨⟨r, u, hv, hp, hb⟩, hF⟩, st⟩ | ⟨q, st₀, t, T', L, E, ce, h0, X', hL, e1, e2, ⟨u, hp, hb, hF⟩, hce, hcv, hcl, st⟩
  · cases hv
    obtain ⟨k1, k2, k3⟩ := vx_keep h0 e1 hS hA hf hL hF
    obtain ⟨t2, a1, b1⟩ := kk r u t T'.heap (locs ++ L) e1.symm (by rw [← e2]; exact X'.warmed.alike) hp hb k1 k2 k3 T' rfl X'
    exact ⟨t2, st t2 a1, b1⟩
  · obtain ⟨k1, k2, k3⟩ := vx_keep h0 e1 hS hAX hf hL hF
    obtain ⟨t2, a1, b1⟩ := kx E ce q u t T'.heap (locs ++ L) e1.symm (by rw [← e2]; exact X'.warmed.alike) hp hb k1 k2 k3 (by rw [e1]; exact hce) hcv hcl T' rfl X'
    exact ⟨t2, st.trans a1, b1⟩
theorem vx_calld {S SX : Type} {post : UInt64 → S → Prop} {px : SX → Prop} {B : S → State → Prop} {BX : String → SX → State → Prop} {AX : Nat → Prop} (hr : vx_Run p l e R s m args below meth c H locs cells slots mc ms (F0 m pc ls st0) rest (va_Qd post B A1 a) (vx_X px BX AX) free) (hS : va_S A0 H0 H locs) (hA : ∀ q, q < H.size → A1 q → A0 q) (hf : ∀ q, free q → A0 q) (hAX : ∀ q, q < H.size → AX q → A0 q)
    (kx : ∀ (E : String) (ce : Cell) (q9 : Addr) (u : SX) (t : State) (H1 : Heap) (locs1 : List Loc), t.heap = H1 → s.vm.Alike t.vm → px u → BX E u t → H.size ≤ H1.size → (∀ q : Nat, q < H.size → ¬ AX q → H1[q]? = H[q]?) → va_S A0 H0 H1 locs1 → H1[q9]? = some ce → ce.vm = .none → s.vm.findClass E = some ce.cls → vx_W p l e R s m args below meth c H1 locs1 (cells + mc) (slots + ms) Q (F0 m pc ls rest) q9)
    (kk : ∀ (r : UInt64) (u : S) (t : State) (H1 : Heap) (locs1 : List Loc), t.heap = H1 → s.vm.Alike t.vm → post r u → B u t → H.size ≤ H1.size → (∀ q : Nat, q < H.size → ¬ A1 q → H1[q]? = H[q]?) → va_S A0 H0 H1 locs1 → W p l e R s m args below meth c H1 locs1 (cells + mc) (slots + ms) Q (F0 m (pc + 3) ls (.double r :: rest))) : W p l e R s m args below meth c H locs cells slots Q (F0 m pc ls st0) := by
  intro T hT X
  rcases hr T hT X with ⟨v, st₀, t, T', L, h0, X', hL, e1, e2, ⟨⟨r, u, hv, hp, hb⟩, hF⟩, st⟩ | ⟨q, st₀, t, T', L, E, ce, h0, X', hL, e1, e2, ⟨u, hp, hb, hF⟩, hce, hcv, hcl, st⟩
  · cases hv
    obtain ⟨k1, k2, k3⟩ := vx_keep h0 e1 hS hA hf hL hF
    obtain ⟨t2, a1, b1⟩ := kk r u t T'.heap (locs ++ L) e1.symm (by rw [← e2]; exact X'.warmed.alike) hp hb k1 k2 k3 T' rfl X'
    exact ⟨t2, st t2 a1, b1⟩
  · obtain ⟨k1, k2, k3⟩ := vx_keep h0 e1 hS hAX hf hL hF
    obtain ⟨t2, a1, b1⟩ := kx E ce q u t T'.heap (locs ++ L) e1.symm (by rw [← e2]; exact X'.warmed.alike) hp hb k1 k2 k3 (by rw [e1]; exact hce) hcv hcl T' rfl X'
    exact ⟨t2, st.trans a1, b1⟩
theorem vx_callv {S SX : Type} {post : S → Prop} {px : SX → Prop} {B : S → State → Prop} {BX : String → SX → State → Prop} {AX : Nat → Prop} (hr : vx_Run p l e R s m args below meth c H locs cells slots mc ms (F0 m pc ls st0) rest (va_Qv post B A1 a) (vx_X px BX AX) free) (hS : va_S A0 H0 H locs) (hA : ∀ q, q < H.size → A1 q → A0 q) (hf : ∀ q, free q → A0 q) (hAX : ∀ q, q < H.size → AX q → A0 q)
    (kx : ∀ (E : String) (ce : Cell) (q9 : Addr) (u : SX) (t : State) (H1 : Heap) (locs1 : List Loc), t.heap = H1 → s.vm.Alike t.vm → px u → BX E u t → H.size ≤ H1.size → (∀ q : Nat, q < H.size → ¬ AX q → H1[q]? = H[q]?) → va_S A0 H0 H1 locs1 → H1[q9]? = some ce → ce.vm = .none → s.vm.findClass E = some ce.cls → vx_W p l e R s m args below meth c H1 locs1 (cells + mc) (slots + ms) Q (F0 m pc ls rest) q9)
    (kk : ∀ (u : S) (t : State) (H1 : Heap) (locs1 : List Loc), t.heap = H1 → s.vm.Alike t.vm → post u → B u t → H.size ≤ H1.size → (∀ q : Nat, q < H.size → ¬ A1 q → H1[q]? = H[q]?) → va_S A0 H0 H1 locs1 → W p l e R s m args below meth c H1 locs1 (cells + mc) (slots + ms) Q (F0 m (pc + 3) ls (rest))) : W p l e R s m args below meth c H locs cells slots Q (F0 m pc ls st0) := by
  intro T hT X
  rcases hr T hT X with ⟨v, st₀, t, T', L, h0, X', hL, e1, e2, ⟨⟨u, hv, hp, hb⟩, hF⟩, st⟩ | ⟨q, st₀, t, T', L, E, ce, h0, X', hL, e1, e2, ⟨u, hp, hb, hF⟩, hce, hcv, hcl, st⟩
  · cases hv
    obtain ⟨k1, k2, k3⟩ := vx_keep h0 e1 hS hA hf hL hF
    obtain ⟨t2, a1, b1⟩ := kk u t T'.heap (locs ++ L) e1.symm (by rw [← e2]; exact X'.warmed.alike) hp hb k1 k2 k3 T' rfl X'
    exact ⟨t2, st t2 a1, b1⟩
  · obtain ⟨k1, k2, k3⟩ := vx_keep h0 e1 hS hAX hf hL hF
    obtain ⟨t2, a1, b1⟩ := kx E ce q u t T'.heap (locs ++ L) e1.symm (by rw [← e2]; exact X'.warmed.alike) hp hb k1 k2 k3 (by rw [e1]; exact hce) hcv hcl T' rfl X'
    exact ⟨t2, st.trans a1, b1⟩
/-- caught by the row x of this method's table; the rows ahead don't take it -/
theorem vx_catch {own name : String} {E : String} {ce : Cell} {q : Addr} (hown : s.vm.findClass own = some m.cls) (pre : List ExceptionTableEntry) (x : ExceptionTableEntry) (suf : List ExceptionTableEntry) (hsplit : c.exceptionTable.toList = pre ++ x :: suf)
    (hpass : ∀ z ∈ pre, covers z pc = false ∨ (z.catchType ≠ 0 ∧ ∃ nm : String, (Cond.classLink own z.catchType nm).before args s = true ∧ va_Nc E nm s)) (hx : covers x pc = true) (h0 : x.catchType ≠ 0)
    (hlink : (Cond.classLink own x.catchType name).before args s = true) (hcast : (Cond.castable E name).before args s = true) (hcell : H[q]? = some ce) (hv : ce.vm = .none) (hcl : s.vm.findClass E = some ce.cls)
    (kk : W p l e R s m args below meth c H locs cells slots Q (F0 m x.handlerPc ls [.ref q])) : vx_W p l e R s m args below meth c H locs cells slots Q (F0 m pc ls rest) q := by
  intro T hT X
  have hpl : e.platform.magicAccessors = ({} : Platform).magicAccessors := by rw [X.admits.platform]
  obtain ⟨c3, c4, hc3, hc4, hasg⟩ := Cond.castable_spec hcast
  cases Option.some.inj (hc3.symm.trans hcl)
  obtain ⟨c5, hc5, hcl5⟩ := Cond.classLink_spec hown hlink e.platform hpl
  cases Option.some.inj (hc4.symm.trans hc5)
  obtain ⟨vm', X', st⟩ := X.thenCaughtThrough q (g := F0 m pc ls rest) rfl (Steps.refl _) (by rw [hT]; exact hcell) (by rw [hv]; rfl) (by obtain ⟨k9, h9, -⟩ := Vm.findClass_spec hcl; exact ⟨k9, h9⟩) pre x suf hsplit
    (fun z hz => by
      rcases hpass z hz with h | ⟨hz0, nm, hl1, hn1⟩
      · exact Or.inl h
      · obtain ⟨c6, hc6, hcl6⟩ := Cond.classLink_spec hown hl1 e.platform hpl
        obtain ⟨a8, b8, h1, h2, h3⟩ := hn1
        cases Option.some.inj (h1.symm.trans hcl)
        cases Option.some.inj (h2.symm.trans hc6)
        exact Or.inr ⟨hz0, _, hcl6, h3⟩) hx (Or.inr ⟨h0, c4, hcl5, hasg⟩)
  obtain ⟨t, a1, b1⟩ := kk (T.setVm vm') hT X'
  exact ⟨t, st.trans a1, b1⟩
end Rows
section Ends
variable {p : Program} {l : Launch} {e : Env} {R : Room} {s : State} {m : MethodId} {args : Array Value} {below : List Frame} {meth : Method} {c : Code} {H : Heap} {locs : List Loc} {cells slots : Nat} {Q : State → Prop}
variable {mc ms : Nat} {free : Addr → Prop} {A0 A1 : Nat → Prop} {H0 : Heap} {a : Array Value} {ls : Array Slot} {st0 rest : List Value}
variable {Qc : Array Value → State → Outcome → State → Prop} {XC : String → State → State → Prop}
/-- what a body that may throw owes at its end -/
def vx_MQ (below : List Frame) (Qc : Array Value → State → Outcome → State → Prop) (XC : String → State → State → Prop) (a : Array Value) (s : State) (mc ms : Nat) (free : Addr → Prop) : State → Prop := fun t =>
  ∃ o, t.status = .running ∧ Ended t below o ∧ vx_Q Qc XC mc ms free a s o t
theorem vx_ret {g : JFrame} {mc ms : Nat} (k : W p l e R s m args below meth c H locs cells slots (MQ below Qc args s mc ms free) g) : W p l e R s m args below meth c H locs cells slots (vx_MQ below Qc XC args s mc ms free) g := by
  intro T hT X
  obtain ⟨t, a1, o, b1, b2, b3, b4⟩ := k T hT X
  exact ⟨t, a1, o, b1, b2, Or.inl ⟨b3, b4⟩⟩
/-- not caught here: it goes on to the caller -/
theorem vx_widen {g : JFrame} {q : Addr} {k n : Nat} (h1 : cells ≤ k) (h2 : slots ≤ n) (kk : vx_W p l e R s m args below meth c H locs k n Q g q) : vx_W p l e R s m args below meth c H locs cells slots Q g q := fun T hT X => kk T hT (stand_widen X h1 h2)
theorem vx_out {pc : Nat} {E : String} {ce : Cell} {q : Addr} {mc ms : Nat} (hout : ∀ x ∈ c.exceptionTable.toList, covers x pc = false) (hlocks : meth.locks = false) (hcell : H[q]? = some ce) (hv : ce.vm = .none) (hcl : s.vm.findClass E = some ce.cls)
    (hx : ∀ t : State, t.heap = H → s.vm.Alike t.vm → XC E s t) (hf : ∀ z ∈ locs, free z.base) (hc : cells ≤ mc) (hs : slots ≤ ms) :
    vx_W p l e R s m args below meth c H locs cells slots (vx_MQ below Qc XC args s mc ms free) (F0 m pc ls rest) q := by
  intro T hT X
  obtain ⟨st1, hrun, hend, hW, hsm⟩ := X.leaveThrown q (g := F0 m pc ls rest) rfl rfl rfl hout hlocks
  have hcell9 : (T.setFrames (.throwing q :: below)).heap[q]? = some ce := by
    show T.heap[q]? = some ce
    rw [hT]; exact hcell
  exact ⟨_, st1, .threw q, hrun, hend, Or.inr ⟨q, rfl, E, ce, locs, hx _ hT hW.alike, hcell9, hv, hcl, hW, hsm.mono hc hs, hf⟩⟩
theorem vx_frame {U : State} {k n : Nat} (h : s.sameButNew ({ U with vm := s.vm } : State) locs k n) : s.heap.size ≤ U.heap.size ∧ ∀ q : Nat, q < s.heap.size → (∀ z ∈ locs, z.base ≠ q) → U.heap[q]? = s.heap[q]? := by
  obtain ⟨-, h2, -, -, -, h6⟩ := h
  refine ⟨h2, fun q hq hz => ?_⟩
  obtain ⟨c9, e1, e2, e3, e4⟩ := h6 q _ (Array.getElem?_eq_getElem hq)
  have hs : c9.slots = (s.heap[q]).slots := Array.ext_getElem? fun i => e4 i fun hm => hz _ hm rfl
  have h9 : c9 = s.heap[q] := by
    rw [hs] at e2
    exact e2
  have e5 : U.heap[q]? = some c9 := e1
  rw [e5, h9, Array.getElem?_eq_getElem hq]
/-- the words of a throw but the four that speak of the heap -/
def vx_no (w : Cond) : Bool := decide (w ≠ .isRef (.static Bundle.tN "UNASSIGNED_STACK" Bundle.steD)) && decide (w ≠ .isRef (.static Bundle.tN "SUPPRESSED_SENTINEL" Bundle.listD)) && decide (w ≠ .laysStatic Bundle.tN "UNASSIGNED_STACK" Bundle.steD) && decide (w ≠ .laysStatic Bundle.tN "SUPPRESSED_SENTINEL" Bundle.listD)
def vx_at0 (own : String) (ic : Nat) (X : String) (names : List String) : List Cond := (Bundle.ownAtoms0 own ic X names).filter vx_no
def vx_atS (own : String) (ic : Nat) (X : String) (names : List String) : List Cond := (Bundle.ownAtoms own ic X names).filter vx_no
/-- a word that the tables alone decide, or a good one -/
def vx_ot (w : Cond) : Bool := w.onTables || goodWord w
theorem vx_ot_at {args a' : Array Value} {s U : State} {w : Cond} (hW : s.WarmedH U.vm) (hvm : s.vm = U.vm) (hg : vx_ot w = true) (h : w.before args s = true) : w.before a' U = true := by
  simp only [vx_ot, Bool.or_eq_true] at hg
  rcases hg with hg | hg
  · exact va_tabs hg hvm h
  · exact word_at hW (good_of_word hg) h
/-- a list's words: the good ones out of the method's own list, the others by premises of their own -/
theorem vx_hat {args : Array Value} {s : State} {L B : List Cond} (h1 : ∀ w ∈ L.filter goodWord, w.before args s = true) (h2 : ∀ w ∈ L.filter (fun w => !goodWord w), w ∈ B) (h3 : ∀ w ∈ B, w.before args s = true) : ∀ w ∈ L, w.before args s = true := by
  intro w hw
  by_cases g : goodWord w = true
  · exact h1 w (List.mem_filter.mpr ⟨hw, g⟩)
  · refine h3 w (h2 w (List.mem_filter.mpr ⟨hw, ?_⟩))
    show (!goodWord w) = true
    cases hgw : goodWord w
    · rfl
    · exact absurd hgw g
theorem vx_c {args : Array Value} {s : State} {w : Cond} {B : List Cond} (h : w.before args s = true) (t : ∀ w ∈ B, w.before args s = true) : ∀ w' ∈ w :: B, w'.before args s = true := fun w' h' => (List.mem_cons.mp h').elim (fun e => by rw [e]; exact h) (t w')
theorem vx_n {args : Array Value} {s : State} : ∀ w ∈ ([] : List Cond), w.before args s = true := fun _ h => nomatch h
theorem vx_own {args : Array Value} {s : State} {L : List Cond} (h1 : ∀ w ∈ L.filter vx_no, w.before args s = true)
    (hU : (Cond.isRef (.static Bundle.tN "UNASSIGNED_STACK" Bundle.steD)).before args s = true) (hN : (Cond.isRef (.static Bundle.tN "SUPPRESSED_SENTINEL" Bundle.listD)).before args s = true)
    (lU : (Cond.laysStatic Bundle.tN "UNASSIGNED_STACK" Bundle.steD).before args s = true) (lN : (Cond.laysStatic Bundle.tN "SUPPRESSED_SENTINEL" Bundle.listD).before args s = true) : ∀ w ∈ L, w.before args s = true := by
  intro w hw
  by_cases e1 : w = .isRef (.static Bundle.tN "UNASSIGNED_STACK" Bundle.steD)
  · rw [e1]; exact hU
  · by_cases e2 : w = .isRef (.static Bundle.tN "SUPPRESSED_SENTINEL" Bundle.listD)
    · rw [e2]; exact hN
    · by_cases e3 : w = .laysStatic Bundle.tN "UNASSIGNED_STACK" Bundle.steD
      · rw [e3]; exact lU
      · by_cases e4 : w = .laysStatic Bundle.tN "SUPPRESSED_SENTINEL" Bundle.listD
        · rw [e4]; exact lN
        · exact h1 w (List.mem_filter.mpr ⟨hw, by unfold vx_no; rw [decide_eq_true e1, decide_eq_true e2, decide_eq_true e3, decide_eq_true e4]; rfl⟩)
/-- where a static field lies, its class's statics cell in H -/
def vx_L (C n d : String) (A : Nat → Prop) (U : State) (H : Heap) : Prop := ∃ (c : ClassId) (k : Class) (i : Nat) (f : Field) (a : Nat) (cell : Cell), U.vm.findClass C = some c ∧ U.fieldFound? C n d = some (c, k, i, f) ∧ f.isStatic = true ∧ k.statics = some a ∧ H[a]? = some cell ∧ cell.vm.isStatics = true ∧ cell.cls = c ∧ f.slot < cell.slots.size ∧ k.staticTypes[f.slot]? = some f.type ∧ ¬ A a
theorem vx_L.moved {C n d : String} {A : Nat → Prop} {u U : State} {H : Heap} (hvm : u.vm.Alike U.vm) (h : vx_L C n d A u H) : vx_L C n d A U H := by
  obtain ⟨c, k, i, f, a, cell, h1, h2, h3, h4, h5, h6, h7, h8, h9, h10⟩ := h
  obtain ⟨k', hi', he⟩ := State.fieldFound?_setVm hvm h2
  exact ⟨c, k', i, f, a, cell, by rw [hvm.findClass]; exact h1, hi', h3, by rw [he]; exact h4, h5, h6, h7, h8, by rw [he]; exact h9, h10⟩
theorem vx_L.kept {C n d : String} {A : Nat → Prop} {U : State} {H H1 : Heap} (h : vx_L C n d A U H) (hq : ∀ a : Nat, a < H.size → ¬ A a → H1[a]? = H[a]?) : vx_L C n d A U H1 := by
  obtain ⟨c, k, i, f, a, cell, h1, h2, h3, h4, h5, h6, h7, h8, h9, h10⟩ := h
  exact ⟨c, k, i, f, a, cell, h1, h2, h3, h4, by rw [hq a (Array.getElem?_eq_some_iff.mp h5).1 h10]; exact h5, h6, h7, h8, h9, h10⟩
theorem vx_L.narrow {C n d : String} {A B : Nat → Prop} {U : State} {H : Heap} (h : vx_L C n d A U H) (hAB : ∀ q, B q → A q) : vx_L C n d B U H := by
  obtain ⟨c, k, i, f, a, cell, h1, h2, h3, h4, h5, h6, h7, h8, h9, h10⟩ := h
  exact ⟨c, k, i, f, a, cell, h1, h2, h3, h4, h5, h6, h7, h8, h9, fun z => h10 (hAB _ z)⟩
theorem vx_L.word {C n d : String} {A : Nat → Prop} {s : State} {args : Array Value} (h : vx_L C n d A s s.heap) : (Cond.laysStatic C n d).before args s = true := by
  obtain ⟨c, k, i, f, a, cell, h1, h2, h3, h4, h5, h6, h7, h8, h9, -⟩ := h
  show (Cond.laysStatic C n d).holds args s none s [] = true
  exact Cond.laysStatic_of h1 h2 h3 h4 h5 h6 h7 h8 h9
/-- .. and what it holds: null or some reference -/
def vx_Zq (C n d : String) (A : Nat → Prop) (U : State) (H : Heap) : Prop := va_Zq C n d A U H ∧ vx_L C n d A U H
theorem vx_Zq.moved {C n d : String} {A : Nat → Prop} {u U : State} {H : Heap} (hvm : u.vm.Alike U.vm) (h : vx_Zq C n d A u H) : vx_Zq C n d A U H := ⟨va_Zq.moved hvm h.1, vx_L.moved hvm h.2⟩
theorem vx_Zq.kept {C n d : String} {A : Nat → Prop} {U : State} {H H1 : Heap} (h : vx_Zq C n d A U H) (hq : ∀ a : Nat, a < H.size → ¬ A a → H1[a]? = H[a]?) : vx_Zq C n d A U H1 := ⟨va_Zq.kept h.1 hq, vx_L.kept h.2 hq⟩
theorem vx_Zq.narrow {C n d : String} {A B : Nat → Prop} {U : State} {H : Heap} (h : vx_Zq C n d A U H) (hAB : ∀ q, B q → A q) : vx_Zq C n d B U H := ⟨va_Zq.narrow h.1 hAB, vx_L.narrow h.2 hAB⟩
theorem vx_Zqof {args : Array Value} {s : State} {C n d : String} {A : Nat → Prop} (hl : (Cond.laysStatic C n d).before args s = true) (hini : (Cond.initialized C).before args s = true) (h : (Cond.isRef (.static C n d)).before args s = true) (hA : ∀ a : Nat, a < s.heap.size → ¬ A a) : vx_Zq C n d A s s.heap := by
  refine ⟨va_Zqof hl hini h hA, ?_⟩
  obtain ⟨c, k, i, f, a, cell, h1, h2, h3, h4, h5, h6, h7, h8, h9⟩ := Cond.laysStatic_spec hl
  exact ⟨c, k, i, f, a, cell, h1, h2, h3, h4, h5, h6, h7, h8, h9, hA a (Array.getElem?_eq_some_iff.mp h5).1⟩
theorem vx_isRef {C n d : String} {v : Value} {A : Nat → Prop} {s : State} {args : Array Value} (h : va_Z C n d v A s s.heap) (hv : v.isRef = true) : (Cond.isRef (.static C n d)).before args s = true := by
  obtain ⟨cf, kf, fi, f, a, cell, h1, h2, h3, h4, h5, h6, h7, -⟩ := h
  have he : (Term.static C n d).eval args s none [] s = some v := by
    simp [Term.eval, State.fieldNamed?, h1, h2, h4, h5, h6, h7]
  simp only [Cond.before, Cond.holds, Cond.value, he]
  cases v <;> simp_all [Value.isRef]
theorem vx_isRefq {C n d : String} {A : Nat → Prop} {s : State} {args : Array Value} (h : va_Zq C n d A s s.heap) : (Cond.isRef (.static C n d)).before args s = true := by
  rcases h with h | ⟨t, h⟩
  · exact vx_isRef h rfl
  · exact vx_isRef h rfl
/-- the same frame, seen from here: as if the method were called anew in this heap -/
theorem vx_rebase {T : State} (X : Stand p l e R s m args below meth c T locs cells slots) {R' : Room} (hf : R'.frames ≤ R.frames) (hl : R'.locals ≤ R.locals) (hc : cells + R'.cells ≤ R.cells) (hs : slots + R'.slots ≤ R.slots) :
    Stand p l e R' ((T.setVm s.vm).setFrames (.invoking m args :: below)) m args below meth c T [] 0 0 := by
  have htop : (T.setVm s.vm).topJava?.isSome := X.here.top
  have hF : ((T.setVm s.vm).setFrames (.invoking m args :: below)).frames = .invoking m args :: below := State.frames_setFrames _ (State.cur_lt_of_top htop)
  obtain ⟨g₀, hg0⟩ := Option.isSome_iff_exists.mp htop
  obtain ⟨r, hr⟩ := State.topJava?_eq_some.mp hg0
  have hl9 : e.platform.stackLimits (T.setVm s.vm).me = e.platform.stackLimits s.me := X.limits
  have hb9 : (T.setVm s.vm).me.stackBytes = s.me.stackBytes := X.bytes
  refine ⟨X.admits, X.cas, X.clock, hF, ?_, X.hears, X.method, X.code, X.here, X.tail, X.warmed, ?_, ?_, ?_⟩
  · have h := X.room
    have hU : ((T.setVm s.vm).setFrames (.invoking m args :: below)).localsInUse = s.localsInUse := by
      rw [State.localsInUse_invoking hF (meth := meth) (c := c) X.method X.code, State.localsInUse_invoking X.frames X.method X.code]
    simp only [State.hasRoom, Bool.and_eq_true, decide_eq_true_eq] at h ⊢
    obtain ⟨⟨⟨⟨h1, h2, h3, h4, h5, h6⟩, h7⟩, h8⟩, h9⟩ := h
    rw [X.frames, List.length_cons] at h2 h3
    have q1 := X.heapSize
    have q2 := X.used
    simp only [hF, hU, List.length_cons, State.stackLimits_setFrames, State.stackBytes_setFrames, hl9, hb9]
    refine ⟨⟨⟨⟨by omega, by omega, by omega, by omega, by omega, h6⟩, ?_⟩, ?_⟩, X.book⟩
    · show T.heap.size + R'.cells ≤ e.platform.maxCells
      omega
    · show T.slotsUsed + R'.slots ≤ e.platform.maxSlots
      omega
  · rw [State.stackLimits_setFrames]; rfl
  · rw [State.stackBytes_setFrames]; rfl
  · refine ⟨?_, Nat.le_refl _, Nat.le_refl _, ?_, ?_, fun a c9 h9 => ⟨c9, h9, rfl, rfl, fun _ _ => rfl⟩⟩
    · obtain ⟨t, ht, -⟩ := State.frames_cons hr
      show T.setVm s.vm = { ((T.setVm s.vm).setFrames (.invoking m args :: below)).setFrames (T.setVm s.vm).frames with heap := T.heap, slotsUsed := T.slotsUsed }
      rw [State.setFrames_setFrames, State.setFrames_self ht]
      rfl
    · show T.slotsUsed = T.slotsUsed + ((T.heap.toList.drop T.heap.size).map (·.slots.size)).sum
      rw [List.drop_eq_nil_of_le (Nat.le_of_eq Array.length_toList)]
      rfl
    · show ((T.heap.toList.drop T.heap.size).map (·.slots.size)).sum ≤ 0
      rw [List.drop_eq_nil_of_le (Nat.le_of_eq Array.length_toList)]
      exact Nat.le_refl _
/-- 'throw new E()': new; dup; invokespecial; athrow -/
theorem vx_throw0 {cc : ByteArray} {pc : Nat} (hexec : p.tables.exec = Jvm.exec) (hb : c.code = cc) (hl : l.stackTraces = false) {own cls : String} {names : List String} {ik ic mc ms : Nat} {A : Nat → Prop}
    (hown : s.vm.findClass own = some m.cls) (hcls : Bundle.fit cls = true) (hnames : ∀ n ∈ names, Bundle.fit n = true)
    (hk : (Cond.classLink own ik cls).before args s = true) (hini : (Cond.initialized cls).before args s = true) (hat : ∀ w ∈ vx_at0 own ic cls names, w.before args s = true)
    (hgood : ∀ w ∈ Cond.classLink own ik cls :: Cond.initialized cls :: vx_at0 own ic cls names, vx_ot w = true)
    (hU : vx_Zq Bundle.tN "UNASSIGNED_STACK" Bundle.steD A s s.heap) (hN : vx_Zq Bundle.tN "SUPPRESSED_SENTINEL" Bundle.listD A s s.heap) (hS : va_S A s.heap H locs) (hsize : ls.size = c.maxLocals)
    (d0 : decode cc pc = .ok (.new ik, 3)) (d3 : decode cc (pc + 3) = .ok (.dup, 1)) (d4 : decode cc (pc + 4) = .ok (.invokespecial ic, 3)) (d7 : decode cc (pc + 7) = .ok (.athrow, 1))
    (hout : ∀ x ∈ c.exceptionTable.toList, covers x (pc + 7) = false)
    (hRframes : names.length + 3 < R.frames) (hRlocals : (rest.map fun v => v.category).sum + (13 * (names.length + 1) + 42) ≤ R.locals) (hRcells : cells + 1 ≤ R.cells) (hRslots : slots + 6 ≤ R.slots) (hlocks : meth.locks = false)
    (hx : ∀ t : State, s.vm.Alike t.vm → H.size ≤ t.heap.size → (∀ q : Nat, q < H.size → t.heap[q]? = H[q]?) → XC cls s t)
    (hf : ∀ z ∈ locs, free z.base) (hc : cells + 1 ≤ mc) (hs : slots + 6 ≤ ms) :
    W p l e R s m args below meth c H locs cells slots (vx_MQ below Qc XC args s mc ms free) (F0 m pc ls rest) := by
  intro T hT X
  have htr : e.platform.stackTraces = false := (show e.platform.stackTraces = l.stackTraces by rw [X.admits.platform]).trans hl
  have Y := vx_rebase X (R' := { frames := R.frames, locals := R.locals, cells := 1, slots := 6 }) (Nat.le_refl _) (Nat.le_refl _) hRcells hRslots
  obtain ⟨s', hA⟩ : ∃ z, z = (T.setVm s.vm).setFrames (.invoking m args :: below) := ⟨_, rfl⟩
  rw [← hA] at Y
  have hvm : s'.vm = s.vm := by rw [hA]; rfl
  have hhp : s'.heap = H := by rw [hA]; exact hT
  have hW0 : s.WarmedH s'.vm := by rw [hvm]; exact State.WarmedH.refl s
  have hat' : ∀ w ∈ vx_at0 own ic cls names, w.before args s' = true := fun w hw => vx_ot_at hW0 hvm.symm (hgood w (List.mem_cons_of_mem _ (List.mem_cons_of_mem _ hw))) (hat w hw)
  have hk' : (Cond.classLink own ik cls).before args s' = true := vx_ot_at hW0 hvm.symm (hgood _ List.mem_cons_self) hk
  have hini' : (Cond.initialized cls).before args s' = true := vx_ot_at hW0 hvm.symm (hgood _ (List.mem_cons_of_mem _ List.mem_cons_self)) hini
  have hU' : vx_Zq Bundle.tN "UNASSIGNED_STACK" Bundle.steD A s' s'.heap := by rw [hhp]; exact vx_Zq.moved hW0.alike (hU.kept hS.2.1)
  have hN' : vx_Zq Bundle.tN "SUPPRESSED_SENTINEL" Bundle.listD A s' s'.heap := by rw [hhp]; exact vx_Zq.moved hW0.alike (hN.kept hS.2.1)
  have h : ∀ w ∈ Bundle.ownAtoms0 own ic cls names, w.before args s' = true := vx_own hat' (vx_isRefq hU'.1) (vx_isRefq hN'.1) hU'.2.word hN'.2.word
  have hown' : s'.vm.findClass own = some m.cls := by rw [hvm]; exact hown
  have hins : (Cond.instantiable cls 6).before args s' = true := h _ (by simp [Bundle.ownAtoms0])
  obtain ⟨vm₁, cX, kX, hfX, hkX, -, -, X₁, st1⟩ := Y.newCold hexec (own := own) (C := cls) (index := ik) (n := 6) hown' hk' hins hini'
    (g := F0 m pc ls rest) rfl (by rw [hb]; exact d0) (Nat.le_refl _) (Nat.le_refl _)
  generalize hT1 : (T.setVm vm₁).pushCell { cls := cX, slots := kX.instanceTypes.map defaultValue, vm := .none } = T1 at X₁ st1
  have hcat : (Value.ref T.heap.size).category = 1 := rfl
  have hcellA : T1.heap[T.heap.size]? = some (freshCell cX kX) := by rw [← hT1]; exact State.heap_pushCell_size _ _
  have d3' : decode c.code (pc + 3) = .ok (.dup, 1) := by rw [hb]; exact d3
  obtain ⟨U, hsteps, hrun, hend, hW, hsame, ce, hce, hO⟩ := X₁.ctorThrow0 hexec htr (own := own) (cls := cls) (names := names) (ic := ic) hown' hcls hnames h (fun x hx => nomatch hx) hfX hkX hcellA (by rw [hhp, hT]; exact Nat.le_refl _)
    (g := { method := m, pc := pc + 4, locals := ls, stack := .ref T.heap.size :: .ref T.heap.size :: rest, locked := none }) rfl hsize rfl rfl (rest := rest) rfl
    (by rw [hb]; exact d4) (by rw [hb]; exact d7) hout hRframes (by simp only [List.map_cons, List.sum_cons, hcat]; omega) hlocks
  obtain ⟨f1, f2⟩ := vx_frame hsame
  rw [hhp] at f1 f2
  have hWs : s.WarmedH U.vm := State.WarmedH.trans hW0 hW
  have hcl : s.vm.findClass cls = some ce.cls := by
    have h9 := hO.cls
    rw [hvm] at h9
    exact h9
  have hall : s.sameButNew ({ U with vm := s.vm } : State) locs mc ms := by
    subst hA
    obtain ⟨e1, e2⟩ := hsame
    rw [State.setFrames_setFrames] at e1
    have h2 : (T.setVm s.vm).sameButNew ({ U with vm := s.vm } : State) [] (0 + 1) (0 + 6) := ⟨e1, e2⟩
    have h3 := X.same.trans h2
    rw [List.append_nil] at h3
    exact h3.mono hc hs
  refine ⟨U, ?_, .threw T.heap.size, hrun, hend, Or.inr ⟨T.heap.size, rfl, cls, ce, locs, hx U hWs.alike f1 (fun q hq => f2 q hq (fun z hz => nomatch hz)), hce, hO.vm, hcl, hWs, hall, hf⟩⟩
  refine st1 _ ?_
  show Steps p.tables e below (T1.setTop { method := m, pc := pc + 3, locals := ls, stack := .ref T.heap.size :: rest, locked := none }) _
  jvm_step X₁.here [X₁.here.top, hexec, d3', Value.category]
  exact hsteps
/-- 'throw new E("text")': new; dup; ldc; invokespecial; athrow -/
theorem vx_throwS {cc : ByteArray} {pc : Nat} (hexec : p.tables.exec = Jvm.exec) (hb : c.code = cc) (hl : l.stackTraces = false) {own cls text : String} {names : List String} {ik is ic mc ms sa : Nat} {A : Nat → Prop}
    (hown : s.vm.findClass own = some m.cls) (hcls : Bundle.fit cls = true) (hnames : ∀ n ∈ names, Bundle.fit n = true)
    (hk : (Cond.classLink own ik cls).before args s = true) (hini : (Cond.initialized cls).before args s = true) (hstr : vk_R own is text sa s) (hat : ∀ w ∈ vx_atS own ic cls names, w.before args s = true)
    (hgood : ∀ w ∈ Cond.classLink own ik cls :: Cond.initialized cls :: vx_atS own ic cls names, vx_ot w = true)
    (hU : vx_Zq Bundle.tN "UNASSIGNED_STACK" Bundle.steD A s s.heap) (hN : vx_Zq Bundle.tN "SUPPRESSED_SENTINEL" Bundle.listD A s s.heap) (hS : va_S A s.heap H locs) (hsize : ls.size = c.maxLocals)
    (d0 : decode cc pc = .ok (.new ik, 3)) (d3 : decode cc (pc + 3) = .ok (.dup, 1)) (d4 : decode cc (pc + 4) = .ok (.ldc is, 2)) (d6 : decode cc (pc + 6) = .ok (.invokespecial ic, 3)) (d9 : decode cc (pc + 9) = .ok (.athrow, 1))
    (hout : ∀ x ∈ c.exceptionTable.toList, covers x (pc + 9) = false)
    (hRframes : names.length + 3 < R.frames) (hRlocals : (rest.map fun v => v.category).sum + (13 * (names.length + 1) + 43) ≤ R.locals) (hRcells : cells + 1 ≤ R.cells) (hRslots : slots + 6 ≤ R.slots) (hlocks : meth.locks = false)
    (hx : ∀ t : State, s.vm.Alike t.vm → H.size ≤ t.heap.size → (∀ q : Nat, q < H.size → t.heap[q]? = H[q]?) → XC cls s t)
    (hf : ∀ z ∈ locs, free z.base) (hc : cells + 1 ≤ mc) (hs : slots + 6 ≤ ms) :
    W p l e R s m args below meth c H locs cells slots (vx_MQ below Qc XC args s mc ms free) (F0 m pc ls rest) := by
  intro T hT X
  have htr : e.platform.stackTraces = false := (show e.platform.stackTraces = l.stackTraces by rw [X.admits.platform]).trans hl
  have Y := vx_rebase X (R' := { frames := R.frames, locals := R.locals, cells := 1, slots := 6 }) (Nat.le_refl _) (Nat.le_refl _) hRcells hRslots
  obtain ⟨s', hA⟩ : ∃ z, z = (T.setVm s.vm).setFrames (.invoking m args :: below) := ⟨_, rfl⟩
  rw [← hA] at Y
  have hvm : s'.vm = s.vm := by rw [hA]; rfl
  have hhp : s'.heap = H := by rw [hA]; exact hT
  have hW0 : s.WarmedH s'.vm := by rw [hvm]; exact State.WarmedH.refl s
  have hat' : ∀ w ∈ vx_atS own ic cls names, w.before args s' = true := fun w hw => vx_ot_at hW0 hvm.symm (hgood w (List.mem_cons_of_mem _ (List.mem_cons_of_mem _ hw))) (hat w hw)
  have hk' : (Cond.classLink own ik cls).before args s' = true := vx_ot_at hW0 hvm.symm (hgood _ List.mem_cons_self) hk
  have hini' : (Cond.initialized cls).before args s' = true := vx_ot_at hW0 hvm.symm (hgood _ (List.mem_cons_of_mem _ List.mem_cons_self)) hini
  have hU' : vx_Zq Bundle.tN "UNASSIGNED_STACK" Bundle.steD A s' s'.heap := by rw [hhp]; exact vx_Zq.moved hW0.alike (hU.kept hS.2.1)
  have hN' : vx_Zq Bundle.tN "SUPPRESSED_SENTINEL" Bundle.listD A s' s'.heap := by rw [hhp]; exact vx_Zq.moved hW0.alike (hN.kept hS.2.1)
  have h : ∀ w ∈ Bundle.ownAtoms own ic cls names, w.before args s' = true := vx_own hat' (vx_isRefq hU'.1) (vx_isRefq hN'.1) hU'.2.word hN'.2.word
  have hown' : s'.vm.findClass own = some m.cls := by rw [hvm]; exact hown
  have hins : (Cond.instantiable cls 6).before args s' = true := h _ (by simp [Bundle.ownAtoms])
  obtain ⟨vm₁, cX, kX, hfX, hkX, -, -, X₁, st1⟩ := Y.newCold hexec (own := own) (C := cls) (index := ik) (n := 6) hown' hk' hins hini'
    (g := F0 m pc ls rest) rfl (by rw [hb]; exact d0) (Nat.le_refl _) (Nat.le_refl _)
  generalize hT1 : (T.setVm vm₁).pushCell { cls := cX, slots := kX.instanceTypes.map defaultValue, vm := .none } = T1 at X₁ st1
  have hcat : (Value.ref T.heap.size).category = 1 := rfl
  have hcellA : T1.heap[T.heap.size]? = some (freshCell cX kX) := by rw [← hT1]; exact State.heap_pushCell_size _ _
  have d3' : decode c.code (pc + 3) = .ok (.dup, 1) := by rw [hb]; exact d3
  have d4' : decode c.code (pc + 4) = .ok (.ldc is, 2) := by rw [hb]; exact d4
  have hstr' : vk_R own is text sa s' := vk_R.warm hW0 hstr
  obtain ⟨U, hsteps, hrun, hend, hW, hsame, ce, hce, hO⟩ := X₁.ctorThrowS hexec htr (own := own) (cls := cls) (names := names) (ic := ic) hown' hcls hnames h (fun x hx => nomatch hx) hfX hkX hcellA (by rw [hhp, hT]; exact Nat.le_refl _) (msg := .ref sa) rfl
    (g := { method := m, pc := pc + 6, locals := ls, stack := .ref sa :: .ref T.heap.size :: .ref T.heap.size :: rest, locked := none }) rfl hsize rfl rfl (rest := rest) rfl
    (by rw [hb]; exact d6) (by rw [hb]; exact d9) hout hRframes (by simp only [List.map_cons, List.sum_cons, hcat]; omega) hlocks
  obtain ⟨f1, f2⟩ := vx_frame hsame
  rw [hhp] at f1 f2
  have hWs : s.WarmedH U.vm := State.WarmedH.trans hW0 hW
  have hcl : s.vm.findClass cls = some ce.cls := by
    have h9 := hO.cls
    rw [hvm] at h9
    exact h9
  have hall : s.sameButNew ({ U with vm := s.vm } : State) locs mc ms := by
    subst hA
    obtain ⟨e1, e2⟩ := hsame
    rw [State.setFrames_setFrames] at e1
    have h2 : (T.setVm s.vm).sameButNew ({ U with vm := s.vm } : State) [] (0 + 1) (0 + 6) := ⟨e1, e2⟩
    have h3 := X.same.trans h2
    rw [List.append_nil] at h3
    exact h3.mono hc hs
  refine ⟨U, ?_, .threw T.heap.size, hrun, hend, Or.inr ⟨T.heap.size, rfl, cls, ce, locs, hx U hWs.alike f1 (fun q hq => f2 q hq (fun z hz => nomatch hz)), hce, hO.vm, hcl, hWs, hall, hf⟩⟩
  refine st1 _ ?_
  show Steps p.tables e below (T1.setTop { method := m, pc := pc + 3, locals := ls, stack := .ref T.heap.size :: rest, locked := none }) _
  jvm_step X₁.here [X₁.here.top, hexec, d3', Value.category]
  exact X₁.ldcString hexec (own := own) (text := text) (index := is) (a := sa) hown' hstr'.1 hstr'.2
    (g := { method := m, pc := pc + 4, locals := ls, stack := .ref T.heap.size :: .ref T.heap.size :: rest, locked := none }) rfl d4' _ hsteps
/-- 'throw new E("text")', the text by a wide index -/
theorem vx_throwSW {cc : ByteArray} {pc : Nat} (hexec : p.tables.exec = Jvm.exec) (hb : c.code = cc) (hl : l.stackTraces = false) {own cls text : String} {names : List String} {ik is ic mc ms sa : Nat} {A : Nat → Prop}
    (hown : s.vm.findClass own = some m.cls) (hcls : Bundle.fit cls = true) (hnames : ∀ n ∈ names, Bundle.fit n = true)
    (hk : (Cond.classLink own ik cls).before args s = true) (hini : (Cond.initialized cls).before args s = true) (hstr : vk_R own is text sa s) (hat : ∀ w ∈ vx_atS own ic cls names, w.before args s = true)
    (hgood : ∀ w ∈ Cond.classLink own ik cls :: Cond.initialized cls :: vx_atS own ic cls names, vx_ot w = true)
    (hU : vx_Zq Bundle.tN "UNASSIGNED_STACK" Bundle.steD A s s.heap) (hN : vx_Zq Bundle.tN "SUPPRESSED_SENTINEL" Bundle.listD A s s.heap) (hS : va_S A s.heap H locs) (hsize : ls.size = c.maxLocals)
    (d0 : decode cc pc = .ok (.new ik, 3)) (d3 : decode cc (pc + 3) = .ok (.dup, 1)) (d4 : decode cc (pc + 4) = .ok (.ldc_w is, 3)) (d7 : decode cc (pc + 7) = .ok (.invokespecial ic, 3)) (d10 : decode cc (pc + 10) = .ok (.athrow, 1))
    (hout : ∀ x ∈ c.exceptionTable.toList, covers x (pc + 10) = false)
    (hRframes : names.length + 3 < R.frames) (hRlocals : (rest.map fun v => v.category).sum + (13 * (names.length + 1) + 43) ≤ R.locals) (hRcells : cells + 1 ≤ R.cells) (hRslots : slots + 6 ≤ R.slots) (hlocks : meth.locks = false)
    (hx : ∀ t : State, s.vm.Alike t.vm → H.size ≤ t.heap.size → (∀ q : Nat, q < H.size → t.heap[q]? = H[q]?) → XC cls s t)
    (hf : ∀ z ∈ locs, free z.base) (hc : cells + 1 ≤ mc) (hs : slots + 6 ≤ ms) :
    W p l e R s m args below meth c H locs cells slots (vx_MQ below Qc XC args s mc ms free) (F0 m pc ls rest) := by
  intro T hT X
  have htr : e.platform.stackTraces = false := (show e.platform.stackTraces = l.stackTraces by rw [X.admits.platform]).trans hl
  have Y := vx_rebase X (R' := { frames := R.frames, locals := R.locals, cells := 1, slots := 6 }) (Nat.le_refl _) (Nat.le_refl _) hRcells hRslots
  obtain ⟨s', hA⟩ : ∃ z, z = (T.setVm s.vm).setFrames (.invoking m args :: below) := ⟨_, rfl⟩
  rw [← hA] at Y
  have hvm : s'.vm = s.vm := by rw [hA]; rfl
  have hhp : s'.heap = H := by rw [hA]; exact hT
  have hW0 : s.WarmedH s'.vm := by rw [hvm]; exact State.WarmedH.refl s
  have hat' : ∀ w ∈ vx_atS own ic cls names, w.before args s' = true := fun w hw => vx_ot_at hW0 hvm.symm (hgood w (List.mem_cons_of_mem _ (List.mem_cons_of_mem _ hw))) (hat w hw)
  have hk' : (Cond.classLink own ik cls).before args s' = true := vx_ot_at hW0 hvm.symm (hgood _ List.mem_cons_self) hk
  have hini' : (Cond.initialized cls).before args s' = true := vx_ot_at hW0 hvm.symm (hgood _ (List.mem_cons_of_mem _ List.mem_cons_self)) hini
  have hU' : vx_Zq Bundle.tN "UNASSIGNED_STACK" Bundle.steD A s' s'.heap := by rw [hhp]; exact vx_Zq.moved hW0.alike (hU.kept hS.2.1)
  have hN' : vx_Zq Bundle.tN "SUPPRESSED_SENTINEL" Bundle.listD A s' s'.heap := by rw [hhp]; exact vx_Zq.moved hW0.alike (hN.kept hS.2.1)
  have h : ∀ w ∈ Bundle.ownAtoms own ic cls names, w.before args s' = true := vx_own hat' (vx_isRefq hU'.1) (vx_isRefq hN'.1) hU'.2.word hN'.2.word
  have hown' : s'.vm.findClass own = some m.cls := by rw [hvm]; exact hown
  have hins : (Cond.instantiable cls 6).before args s' = true := h _ (by simp [Bundle.ownAtoms])
  obtain ⟨vm₁, cX, kX, hfX, hkX, -, -, X₁, st1⟩ := Y.newCold hexec (own := own) (C := cls) (index := ik) (n := 6) hown' hk' hins hini'
    (g := F0 m pc ls rest) rfl (by rw [hb]; exact d0) (Nat.le_refl _) (Nat.le_refl _)
  generalize hT1 : (T.setVm vm₁).pushCell { cls := cX, slots := kX.instanceTypes.map defaultValue, vm := .none } = T1 at X₁ st1
  have hcat : (Value.ref T.heap.size).category = 1 := rfl
  have hcellA : T1.heap[T.heap.size]? = some (freshCell cX kX) := by rw [← hT1]; exact State.heap_pushCell_size _ _
  have d3' : decode c.code (pc + 3) = .ok (.dup, 1) := by rw [hb]; exact d3
  have d4' : decode c.code (pc + 4) = .ok (.ldc_w is, 3) := by rw [hb]; exact d4
  have hstr' : vk_R own is text sa s' := vk_R.warm hW0 hstr
  obtain ⟨U, hsteps, hrun, hend, hW, hsame, ce, hce, hO⟩ := X₁.ctorThrowS hexec htr (own := own) (cls := cls) (names := names) (ic := ic) hown' hcls hnames h (fun x hx => nomatch hx) hfX hkX hcellA (by rw [hhp, hT]; exact Nat.le_refl _) (msg := .ref sa) rfl
    (g := { method := m, pc := pc + 7, locals := ls, stack := .ref sa :: .ref T.heap.size :: .ref T.heap.size :: rest, locked := none }) rfl hsize rfl rfl (rest := rest) rfl
    (by rw [hb]; exact d7) (by rw [hb]; exact d10) hout hRframes (by simp only [List.map_cons, List.sum_cons, hcat]; omega) hlocks
  obtain ⟨f1, f2⟩ := vx_frame hsame
  rw [hhp] at f1 f2
  have hWs : s.WarmedH U.vm := State.WarmedH.trans hW0 hW
  have hcl : s.vm.findClass cls = some ce.cls := by
    have h9 := hO.cls
    rw [hvm] at h9
    exact h9
  have hall : s.sameButNew ({ U with vm := s.vm } : State) locs mc ms := by
    subst hA
    obtain ⟨e1, e2⟩ := hsame
    rw [State.setFrames_setFrames] at e1
    have h2 : (T.setVm s.vm).sameButNew ({ U with vm := s.vm } : State) [] (0 + 1) (0 + 6) := ⟨e1, e2⟩
    have h3 := X.same.trans h2
    rw [List.append_nil] at h3
    exact h3.mono hc hs
  refine ⟨U, ?_, .threw T.heap.size, hrun, hend, Or.inr ⟨T.heap.size, rfl, cls, ce, locs, hx U hWs.alike f1 (fun q hq => f2 q hq (fun z hz => nomatch hz)), hce, hO.vm, hcl, hWs, hall, hf⟩⟩
  refine st1 _ ?_
  show Steps p.tables e below (T1.setTop { method := m, pc := pc + 3, locals := ls, stack := .ref T.heap.size :: rest, locked := none }) _
  jvm_step X₁.here [X₁.here.top, hexec, d3', Value.category]
  exact X₁.ldcStringW hexec (own := own) (text := text) (index := is) (a := sa) hown' hstr'.1 hstr'.2
    (g := { method := m, pc := pc + 4, locals := ls, stack := .ref T.heap.size :: .ref T.heap.size :: rest, locked := none }) rfl d4' _ hsteps
end Ends
section Bodies
variable {l : Launch}
theorem vx_ofW {y : MethodName} {ws ws' : List Cond} {rm : Room} {Pc : Array Value → State → Prop} {Qc : Array Value → State → Outcome → State → Prop} {XC : String → State → State → Prop} {mc ms : Nat} {free : Addr → Prop} {cc : ByteArray} {maxL : Nat} {ret : Option FieldType}
    (hy : plainName y.cls = true) (hw : ws = Cond.code y cc maxL ret :: ws')
    (body : ∀ p e s m args below meth c s₁, BodyLoose p l y (headSpec ws rm) cc maxL ret e s m args below meth c s₁ → c.maxLocals = maxL → (∀ x ∈ c.exceptionTable.toList, False) → Pc args s →
      W p l e (headSpec ws rm).room s m args below meth c s.heap [] 0 0 (vx_MQ below Qc XC args s mc ms free) (entryFrame m args maxL)) : vx_Met l y ws rm Pc Qc XC mc ms free := by
  refine MetFree.of_bodyS (code := cc) (maxLocals := maxL) (ret := ret) hy ?_ ?_
  · intro args s m h hn
    obtain ⟨meth, c, h1, h2, h3, h4, h5, h6, -, -⟩ := Cond.code_spec hn (atoms_spec (ws := ws) h _ (by rw [hw]; exact List.mem_cons_self))
    exact ⟨meth, c, h1, h2, h3, h4, h5, h6⟩
  · intro p e s m args below meth c s₁ B hml hP _
    have hh0 : s₁.heap = s.heap := by rw [B.state]; rfl
    have ht : ∀ x ∈ c.exceptionTable.toList, False := by
      obtain ⟨meth9, c9, h1, h2, -, -, -, -, h7, -⟩ := Cond.code_spec B.named (atoms_spec (ws := ws) B.pre _ (by rw [hw]; exact List.mem_cons_self))
      cases Option.some.inj (h1.symm.trans B.method)
      cases Option.some.inj (h2.symm.trans (Stand.of_body B).code)
      intro x hx
      rw [Array.isEmpty_iff.mp h7] at hx
      cases hx
    obtain ⟨t, a1, o, b1, b2, b3⟩ := body p e s m args below meth c s₁ B hml ht hP s₁ hh0 (Stand.of_body B)
    exact ⟨t, o, a1, b1, b2, b3⟩
/-- the table of a body with handlers -/
theorem vx_table {p : Program} {x y : MethodName} {S : Spec} {cc bytes : ByteArray} {maxL maxL' : Nat} {ret ret' : Option FieldType} {e : Env} {s s₁ : State} {m : MethodId} {args : Array Value} {below : List Frame} {meth : Method} {c : Code} {hh : List (Nat × Nat × Nat × Nat)}
    (B : BodyLoose p l y S cc maxL ret e s m args below meth c s₁) (h : (Cond.codeWith y bytes maxL' ret' hh).before args s = true) : c.exceptionTable.toList = tableOf hh := by
  obtain ⟨m9, meth9, c9, hn9, h1, h2, -, -, h6, -⟩ := Cond.codeWith_spec h
  cases Option.some.inj (hn9.symm.trans B.named)
  cases Option.some.inj (h1.symm.trans B.method)
  cases Option.some.inj (h2.symm.trans (Stand.of_body B).code)
  rw [← h6, table_eq]
end Bodies
end VXA
/-! ===== END ===== -/
/-! ===== BEGIN a static call of a method with an exception table ===== -/
section VXS
variable {p : Program} {l : Launch} {e : Env} {R : Room} {s : State} {m : MethodId} {args : Array Value} {below : List Frame} {meth : Method} {c : Code} {T : State} {H : Heap} {locs : List Loc} {cells slots : Nat}
abbrev vx_CSW (R : Room) (s : State) (args : Array Value) (own : String) (index : Nat) (y : MethodName) (bytes : ByteArray) (maxL : Nat) (ret : Option FieldType) (hh : List (Nat × Nat × Nat × Nat)) (ws : List Cond) (rm : Room) (mc ms n : Nat) : Prop :=
  (rm.cells = mc ∧ rm.slots = ms ∧ rm.frames + 1 ≤ R.frames ∧ 8 + (maxL + 11) + rm.locals ≤ R.locals ∧ (∀ w ∈ ws, ∀ (a' : Array Value) (U : State), s.WarmedH U.vm → w.before a' U = true) ∧ Cond.codeWith y bytes maxL ret hh ∈ ws) ∧
  (Cond.codeWith y bytes maxL ret hh).before args s = true ∧ (Cond.initialized y.cls).before args s = true ∧ (y.cls ≠ "java/lang/invoke/MethodHandle" ∧ y.cls ≠ "java/lang/invoke/VarHandle") ∧
  (∀ sig, parseMethodDescriptor y.desc = some sig → n = sig.parameters.length) ∧ (Cond.methodLink own index y).before args s = true ∧ (Cond.static y).before args s = true
theorem vx_cwSW {own : String} {index maxL mc ms : Nat} {y : MethodName} {bytes : ByteArray} {ret : Option FieldType} {hh : List (Nat × Nat × Nat × Nat)} {Ts ws ws' : List Cond} {rm : Room} (n : Nat) (ht : ∀ w ∈ Ts, w.before args s = true) (hT : GoodIn Ts (va_wsS own index y ws)) (hw : ws = Cond.codeWith y bytes maxL ret hh :: ws') (hrc : rm.cells = mc) (hrs : rm.slots = ms)
    (hd : y.cls ≠ "java/lang/invoke/MethodHandle" ∧ y.cls ≠ "java/lang/invoke/VarHandle" ∧ (parseMethodDescriptor y.desc).map (fun d => d.parameters.length) = some n) (hR : rm.frames + 1 ≤ R.frames ∧ 8 + (maxL + 11) + rm.locals ≤ R.locals) :
    vx_CSW R s args own index y bytes maxL ret hh ws rm mc ms n := by
  have ok : ∀ w ∈ va_wsS own index y ws, w.before args s = true := fun w h => ht w (hT w h).1
  have hG : GoodIn Ts ws := fun w h => hT w (by unfold va_wsS; exact List.mem_append_right _ h)
  have hc : Cond.codeWith y bytes maxL ret hh ∈ ws := by rw [hw]; exact List.mem_cons_self
  refine ⟨⟨hrc, hrs, hR.1, hR.2, pay_in ht hG, hc⟩, ht _ (hG _ hc).1, ok _ (by simp [va_wsS]), ⟨hd.1, hd.2.1⟩, fun sig h => ?_, ok _ (by simp [va_wsS]), ok _ (by simp [va_wsS])⟩
  have h2 := hd.2.2
  rw [h] at h2
  exact (Option.some.inj h2).symm
theorem vx_callSW (X : Stand p l e R s m args below meth c T locs cells slots) (hexec : p.tables.exec = Jvm.exec) {own : String} {index : Nat} {y : MethodName} {bytes : ByteArray} {maxL : Nat} {ret : Option FieldType} {hh : List (Nat × Nat × Nat × Nat)}
    (hown : s.vm.findClass own = some m.cls) (hlink : (Cond.methodLink own index y).before args s = true) (hstat : (Cond.static y).before args s = true) (hinit : (Cond.initialized y.cls).before args s = true)
    (hcode : (Cond.codeWith y bytes maxL ret hh).before args s = true) (hy : y.cls ≠ "java/lang/invoke/MethodHandle" ∧ y.cls ≠ "java/lang/invoke/VarHandle")
    {W9 : Nat} {Pre : Pt → Array Value → Prop} {Post : Pt → Array Value → Option Value → Pt → Prop} (hK : Back l R p e below s args y 3 W9 Pre Post)
    {g : JFrame} (hg : g.method = m) (hsize : g.locals.size = c.maxLocals) {argsL rest : List Value} (hlen : ∀ sig, parseMethodDescriptor y.desc = some sig → argsL.length = sig.parameters.length)
    (hstack : g.stack = argsL.reverse ++ rest) (hW : 2 * g.monitorRoom + (rest.map fun v => v.category).sum ≤ W9) (hdg : decode c.code g.pc = .ok (.invokestatic index, 3))
    (hpre : ∀ vm₁, s.WarmedH vm₁ → Pre ⟨T.setVm vm₁, locs, cells, slots⟩ argsL.toArray) :
    ∃ (v : Option Value) (vm₁ : Vm) (B : Pt), s.WarmedH vm₁ ∧ Stand p l e R s m args below meth c B.U B.locs B.cells B.slots ∧ Post ⟨T.setVm vm₁, locs, cells, slots⟩ argsL.toArray v B ∧
      ∀ target, Steps p.tables e below (B.U.setTop { g with pc := g.pc + 3, stack := v.toList ++ rest }) target → Steps p.tables e below (T.setTop g) target := by
  obtain ⟨mk, methM, cM, hnamed, hmethM, -, -, -, -, -, -, hsigM⟩ := Cond.codeWith_spec hcode
  have hstatic : methM.isStatic = true := Cond.static_spec hnamed hmethM hstat
  obtain ⟨kP, hkP, -⟩ := className_of_methodNamed hnamed
  have hinitP : kP.init = .initialized := Cond.initialized_spec (findClass_of_methodNamed hnamed) hkP hinit
  obtain ⟨vm₁, X₁, hstep₁⟩ := X.invokestatic hexec hown hlink hnamed hmethM hstatic hkP hinitP hy (g := g) hg (argsL := argsL) (rest := rest) (hlen _ hsigM) hstack hdg
  obtain ⟨v, B, X', hpost, hsteps⟩ := hK m meth c ⟨T.setVm vm₁, locs, cells, slots⟩ { g with stack := rest } (.invokestatic index) mk argsL.toArray X₁ hg hsize hdg hW (X₁.named hnamed) (hpre vm₁ X₁.warmed)
  exact ⟨v, vm₁, B, X₁.warmed, X', hpost, fun target h => hstep₁ _ fun acts => by rw [doInvoke_state]; exact hsteps.trans h⟩
theorem vx_runSW {y : MethodName} {bytes cc : ByteArray} {maxL nL mc ms n index : Nat} {ret : Option FieldType} {hh : List (Nat × Nat × Nat × Nat)} {ws : List Cond} {rm : Room} {Pc : Array Value → State → Prop} {Qc : Array Value → State → Outcome → State → Prop} {free : Addr → Prop} {Ts : List Cond} {own : String} {As rest : List Value} {g : JFrame}
    (S : CallFix p m c cc nL s args Ts own) (hM : Met l y ws rm Pc Qc mc ms free) (cw : vx_CSW R s args own index y bytes maxL ret hh ws rm mc ms n) (hp : PreS s H Pc As)
    (hg : g.method = m) (hn : As.length = n) (hsize : g.locals.size = nL) (hstack : g.stack = As.reverse ++ rest) (hW : 2 * g.monitorRoom + (rest.map fun v => v.category).sum ≤ 8) (hdg : decode cc g.pc = .ok (.invokestatic index, 3)) (hf : cells + mc ≤ R.cells ∧ slots + ms ≤ R.slots) :
    va_Run p l e R s m args below meth c H locs cells slots mc ms g rest (Qc As.toArray) (free) := by
  obtain ⟨⟨hrc, hrs, hfr, hlo, hws, hcw⟩, hcode, hini, hy, hlen, hl, hstt⟩ := cw
  have hK : Back l R p e below s args y 3 8 (PreOf R mc ms Pc) (PostOf Qc mc ms free) := va_backW (hh := hh) (bytes := bytes) (maxL := maxL) (ret := ret) hM hp.1 hrc hrs hfr hlo hws hcw (fun a' U hW => word_at hW (Or.inl (by first | rfl | simp [Cond.onTables, Cond.keeps, Cond.steady])) hini)
  obtain ⟨hx, hb, hml, ho, -⟩ := S
  intro T hT X
  obtain ⟨v, vm₁, ⟨U', l2, c2, s2⟩, hW₁, X', ⟨g', mk, t, L, e1, e2, hq, h1, hL, h2, h3⟩, st⟩ := vx_callSW X hx (hh := hh) (bytes := bytes) (maxL := maxL) (ret := ret) ho hl hstt hini hcode hy hK hg (hsize.trans hml.symm) (argsL := As) (rest := rest) (fun sig h => hn.trans (hlen sig h)) hstack hW (by rw [hb]; exact hdg)
    (fun vm₁ hW₁ => ⟨hf.1, hf.2, hp.2 (T.setVm vm₁) hT hW₁⟩)
  dsimp only [Pt.U, Pt.locs, Pt.cells, Pt.slots] at X' e1 e2 h1 h2 h3 st
  subst h1; subst h2; subst h3
  exact ⟨v, (T.setVm vm₁).calling g' mk As.toArray, t, U', L, hT, X', hL, e1, e2, hq, st⟩
/-- not caught here, past rows that name other classes: it goes on to the caller -/
theorem vx_outP {p : Program} {l : Launch} {e : Env} {R : Room} {s : State} {m : MethodId} {args : Array Value} {below : List Frame} {meth : Method} {c : Code} {H : Heap} {locs : List Loc} {cells slots : Nat} {free : Addr → Prop} {ls : Array Slot} {rest : List Value} {Qc : Array Value → State → Outcome → State → Prop} {XC : String → State → State → Prop}
    {pc : Nat} {own E : String} {ce : Cell} {q : Addr} {mc ms : Nat} (hown : s.vm.findClass own = some m.cls) (hlocks : meth.locks = false)
    (hpass : ∀ z ∈ c.exceptionTable.toList, covers z pc = false ∨ (z.catchType ≠ 0 ∧ ∃ nm : String, (Cond.classLink own z.catchType nm).before args s = true ∧ va_Nc E nm s)) (hcell : H[q]? = some ce) (hv : ce.vm = .none) (hcl : s.vm.findClass E = some ce.cls)
    (hx : ∀ t : State, t.heap = H → s.vm.Alike t.vm → XC E s t) (hf : ∀ z ∈ locs, free z.base) (hc : cells ≤ mc) (hs : slots ≤ ms) :
    vx_W p l e R s m args below meth c H locs cells slots (vx_MQ below Qc XC args s mc ms free) (F0 m pc ls rest) q := by
  intro T hT X
  have hpl : e.platform.magicAccessors = ({} : Platform).magicAccessors := by rw [X.admits.platform]
  obtain ⟨vm', hW', X', st⟩ := X.outThrough hlocks q (g := F0 m pc ls rest) rfl rfl rfl (cell := ce) (by rw [hT]; exact hcell) (by rw [hv]; rfl)
    (by obtain ⟨k9, h9, -⟩ := Vm.findClass_spec hcl; exact ⟨k9, h9⟩) (fun z hz => by
      rcases hpass z hz with h | ⟨hz0, nm, hl1, hn1⟩
      · exact Or.inl h
      · obtain ⟨c6, hc6, hcl6⟩ := Cond.classLink_spec hown hl1 e.platform hpl
        obtain ⟨a8, b8, h1, h2, h3⟩ := hn1
        cases Option.some.inj (h1.symm.trans hcl)
        cases Option.some.inj (h2.symm.trans hc6)
        exact Or.inr ⟨hz0, _, hcl6, h3⟩)
  obtain ⟨g₀, hfr⟩ := X'.frames_eq
  have hcell9 : ((T.setVm vm').setFrames (.throwing q :: below)).heap[q]? = some ce := by
    show T.heap[q]? = some ce
    rw [hT]; exact hcell
  have hend : Ended ((T.setVm vm').setFrames (.throwing q :: below)) below (.threw q) := State.frames_setFrames _ (State.cur_lt_of_frames hfr)
  refine ⟨(T.setVm vm').setFrames (.throwing q :: below), ?_, .threw q, X'.here.running, hend, Or.inr ⟨q, rfl, E, ce, locs, hx _ hT (X'.ends _).1.alike, hcell9, hv, hcl, (X'.ends _).1, (X'.ends _).2.mono hc hs, hf⟩⟩
  rw [X.pushThrowing_eq]
  exact st
/-- a thing of a world lies in the heap -/
theorem vx_lt {D : va_G} {cl : List vw_C} {ws : va_W} {H1 : Heap} (h : va_P D cl ws H1) {k : Nat} {q : Nat × va_E} (hk : ws[k]? = some q) : q.1 < H1.size := (h k q hk).lt
end VXS
/-! ===== END ===== -/
/-! ===== BEGIN methods with a table of their own: called by a name, returning or throwing ===== -/
section VXH
/-! vx_backW, vx_callVX, vx_callSX, vx_callVW, vx_runVW, vx_runVX, vx_runSX, vx_ofWH follow the same proofs as their sisters above (Free/Laws.lean, Shelf42/LK1.lean); vx_outP calls Shelf42/NT130.lean (outThrough). -/
section
variable {l : Launch} {R : Room} {p : Program} {e : Env} {below : List Frame} {s : State} {sargs : Array Value} {y : MethodName} {len W9 : Nat}
theorem vx_backW {ws : List Cond} {rm : Room} {Pc : Array Value → State → Prop} {Qc : Array Value → State → Outcome → State → Prop} {XC : String → State → State → Prop} {mc ms : Nat} {free : Addr → Prop} {bytes : ByteArray} {maxL : Nat} {ret : Option FieldType} {hh : List (Nat × Nat × Nat × Nat)}
    (hM : vx_Met l y ws rm Pc Qc XC mc ms free) (hblind : FrameBlind Pc) (hrc : rm.cells = mc) (hrs : rm.slots = ms)
    (hframes : rm.frames + 1 ≤ R.frames) (hlocals : W9 + (maxL + 11) + rm.locals ≤ R.locals)
    (hws : ∀ w ∈ ws, ∀ a' U, s.WarmedH U.vm → w.before a' U = true) (hcode : Cond.codeWith y bytes maxL ret hh ∈ ws) (hinit : ∀ a' U, s.WarmedH U.vm → (Cond.initialized y.cls).before a' U = true) :
    vx_Back l R p e below s sargs y len W9 (PreOf R mc ms Pc) (PostOf Qc mc ms free) (vx_Post XC mc ms free) := by
  intro m meth c A g ig mk a X hg hsize hdg hW hn hp
  have h1 : (headSpec ws rm).pre.before a A.U = true := atoms_intro fun w hw => hws w hw _ _ X.warmed
  have h2 : (Cond.codeWith y bytes maxL ret hh).before a A.U = true := hws _ hcode _ _ X.warmed
  have h3 : (Cond.initialized y.cls).before a A.U = true := hinit _ _ X.warmed
  have h4 : A.cells + (headSpec ws rm).room.cells ≤ R.cells := by rw [show (headSpec ws rm).room.cells = mc from hrc]; exact hp.1
  have h5 : A.slots + (headSpec ws rm).room.slots ≤ R.slots := by rw [show (headSpec ws rm).room.slots = ms from hrs]; exact hp.2.1
  have hPc : Pc a (A.U.calling g mk a) := hblind _ _ _ _ hp.2.2
  obtain ⟨U, Ls, c0, s0⟩ := A
  dsimp only [Pt.U, Pt.locs, Pt.cells, Pt.slots] at h1 h2 h3 h4 h5 X hn hPc ⊢
  obtain ⟨m9, methY, cY, hn9, hmY, hcY, -, hlY, -⟩ := Cond.codeWith_spec h2
  cases Option.some.inj (hn9.symm.trans hn)
  obtain ⟨kY, hkY, -⟩ := className_of_methodNamed hn
  have hinitY : kY.init = .initialized := Cond.initialized_spec (findClass_of_methodNamed hn) hkY h3
  have h : At U g.method c below := by rw [hg]; exact X.here
  have hlocals9 : W9 + (maxL + 11) + (headSpec ws rm).room.locals ≤ R.locals := hlocals
  have happ : (headSpec ws rm).appliesLoose y e.platform (U.calling g mk a) = true :=
    Spec.appliesLoose_calling (g := g) h hdg hn hkY hinitY
      (X.room_calling (g := g) (R' := (headSpec ws rm).room) hsize hmY hcY hframes (by rw [hlY]; omega) h4 h5) h1
  obtain ⟨mid, hmid⟩ := h.above
  have hfr : (U.setTop g).frames = (.java g :: mid) ++ below := by rw [State.frames_setTop' g h.top, hmid]; rfl
  obtain ⟨o, s₂, hsteps, -, hend, hq⟩ := Steps.callFree hM p X.admits X.cas X.clock (acts := []) hfr happ hPc trivial
  have hq' : vx_Q Qc XC mc ms free a (U.calling g mk a) o s₂ := hq
  rw [State.frames_setTop' g h.top] at hend
  obtain ⟨g₀, hg0⟩ := Option.isSome_iff_exists.mp h.top
  obtain ⟨r, hr⟩ := State.topJava?_eq_some.mp hg0
  have hr' : (({ U with heap := s₂.heap, slotsUsed := s₂.slotsUsed } : State).setVm s₂.vm).frames = .java g₀ :: r := hr
  rcases hq' with ⟨hqc, L, hfe, hL⟩ | ⟨q, rfl, E, ce, L, hx, hce, hcv, hcl, hW₂, hsm, hL⟩
  · obtain ⟨⟨v, rfl⟩, hW₂, e2, q2, q3, q4, q5, q6⟩ := id hfe
    have e3 : s₂ = ({ (U.calling g mk a).setFrames s₂.frames with heap := s₂.heap, slotsUsed := s₂.slotsUsed } : State).setVm s₂.vm := by
      have : s₂ = ({ s₂ with vm := (U.calling g mk a).vm } : State).setVm s₂.vm := rfl
      rw [e2] at this
      exact this
    obtain ⟨c₂, i₂, len₂, hc₂, hd₂, hf₂⟩ := hend
    have hW' : U.WarmedH s₂.vm := hW₂
    have hcc : c₂ = c := by
      have h1 : s₂.code? g.method = U.code? g.method := by
        rw [State.code?_eq, State.code?_eq, hW'.alike.method?]
      exact Option.some.inj (hc₂.symm.trans (h1.trans h.code))
    subst hcc
    have hlen : len₂ = len := by rw [hdg] at hd₂; cases hd₂; rfl
    subst hlen
    have hs₂ : s₂ = (({ U with heap := s₂.heap, slotsUsed := s₂.slotsUsed } : State).setVm s₂.vm).setTop { g with pc := g.pc + len₂, stack := v.toList ++ g.stack } := by
      refine e3.trans ?_
      rw [hf₂, State.calling_eq h.top, State.setFrames_setFrames, State.setTop_of_frames _ hr', hr]
      rfl
    have hsame : U.sameButNew ({ U with heap := s₂.heap, slotsUsed := s₂.slotsUsed } : State) L mc ms := by
      refine ⟨?_, q2, q3, q4, q5, q6⟩
      obtain ⟨t, ht, -⟩ := State.frames_cons hr
      show ({ U with heap := s₂.heap, slotsUsed := s₂.slotsUsed } : State) = { U.setFrames U.frames with heap := s₂.heap, slotsUsed := s₂.slotsUsed }
      rw [State.setFrames_self ht]
    subst hg
    refine Or.inl ⟨v, ⟨(({ U with heap := s₂.heap, slotsUsed := s₂.slotsUsed } : State).setVm s₂.vm), Ls ++ L, c0 + mc, s0 + ms⟩,
      ⟨X.admits, X.cas, X.clock, X.frames, X.room, X.hears, X.method, X.code, (X.here.setHeapUsed s₂.heap s₂.slotsUsed).setVm hW'.alike, X.tail, State.WarmedH.trans X.warmed hW', X.limits, X.bytes, X.same.trans (hsame.setVm s.vm)⟩,
      ⟨g, mk, s₂, L, rfl, rfl, hqc, rfl, hL, rfl, rfl⟩, ?_⟩
    show Steps p.tables e below _ ((({ U with heap := s₂.heap, slotsUsed := s₂.slotsUsed } : State).setVm s₂.vm).setTop { g with pc := g.pc + len₂, stack := v.toList ++ g.stack })
    rw [← hs₂]
    exact hsteps
  · obtain ⟨e2, q2, q3, q4, q5, q6⟩ := id hsm
    have e3 : s₂ = ({ (U.calling g mk a).setFrames s₂.frames with heap := s₂.heap, slotsUsed := s₂.slotsUsed } : State).setVm s₂.vm := by
      have : s₂ = ({ s₂ with vm := (U.calling g mk a).vm } : State).setVm s₂.vm := rfl
      rw [e2] at this
      exact this
    have hf₂ : s₂.frames = .throwing q :: .java g :: U.frames.tail := hend
    have hW' : U.WarmedH s₂.vm := hW₂
    have hs₂ : s₂ = ((({ U with heap := s₂.heap, slotsUsed := s₂.slotsUsed } : State).setVm s₂.vm).setTop g).pushFrame (.throwing q) := by
      refine e3.trans ?_
      rw [hf₂, State.calling_eq h.top, State.setFrames_setFrames, State.pushFrame, State.frames_setTop _ hr', State.setTop_of_frames _ hr', State.setFrames_setFrames, hr]
      rfl
    have hsame : U.sameButNew ({ U with heap := s₂.heap, slotsUsed := s₂.slotsUsed } : State) L mc ms := by
      refine ⟨?_, q2, q3, q4, q5, q6⟩
      obtain ⟨t, ht, -⟩ := State.frames_cons hr
      show ({ U with heap := s₂.heap, slotsUsed := s₂.slotsUsed } : State) = { U.setFrames U.frames with heap := s₂.heap, slotsUsed := s₂.slotsUsed }
      rw [State.setFrames_self ht]
    subst hg
    refine Or.inr ⟨q, ⟨(({ U with heap := s₂.heap, slotsUsed := s₂.slotsUsed } : State).setVm s₂.vm), Ls ++ L, c0 + mc, s0 + ms⟩,
      ⟨X.admits, X.cas, X.clock, X.frames, X.room, X.hears, X.method, X.code, (X.here.setHeapUsed s₂.heap s₂.slotsUsed).setVm hW'.alike, X.tail, State.WarmedH.trans X.warmed hW', X.limits, X.bytes, X.same.trans (hsame.setVm s.vm)⟩,
      ⟨g, mk, s₂, L, E, ce, rfl, rfl, hx, hce, hcv, hcl, rfl, hL, rfl, rfl⟩, ?_⟩
    show Steps p.tables e below _ (((({ U with heap := s₂.heap, slotsUsed := s₂.slotsUsed } : State).setVm s₂.vm).setTop g).pushFrame (.throwing q))
    rw [← hs₂]
    exact hsteps
end
variable {p : Program} {l : Launch} {e : Env} {R : Room} {s : State} {m : MethodId} {args : Array Value} {below : List Frame} {meth : Method} {c : Code} {T : State} {H : Heap} {locs : List Loc} {cells slots : Nat}
theorem vx_callVX (X : Stand p l e R s m args below meth c T locs cells slots) (hexec : p.tables.exec = Jvm.exec) {own C : String} {index : Nat} {y : MethodName} {bytes : ByteArray} {maxL : Nat} {ret : Option FieldType} {hh : List (Nat × Nat × Nat × Nat)}
    (hown : s.vm.findClass own = some m.cls) (hlink : (Cond.methodLink own index y).before args s = true) (hinst : (Cond.instanceMethod y).before args s = true) (hsel : (Cond.selects C y y).before args s = true)
    (hcode : (Cond.codeWith y bytes maxL ret hh).before args s = true) (hy : y.cls ≠ "java/lang/invoke/MethodHandle" ∧ y.cls ≠ "java/lang/invoke/VarHandle")
    {W9 : Nat} {Pre : Pt → Array Value → Prop} {Post : Pt → Array Value → Option Value → Pt → Prop} {PostX : Pt → Array Value → Addr → Pt → Prop} (hK : vx_Back l R p e below s args y 3 W9 Pre Post PostX)
    {b : Addr} {cellB : Cell} (hcell : T.heap[b]? = some cellB) (hobj : cellB.vm.isStatics = false) (hcls : s.vm.findClass C = some cellB.cls)
    {g : JFrame} (hg : g.method = m) (hsize : g.locals.size = c.maxLocals) {argsL rest : List Value} (hlen : ∀ sig, parseMethodDescriptor y.desc = some sig → argsL.length = sig.parameters.length)
    (hstack : g.stack = argsL.reverse ++ .ref b :: rest) (hW : 2 * g.monitorRoom + (rest.map fun v => v.category).sum ≤ W9) (hdg : decode c.code g.pc = .ok (.invokevirtual index, 3))
    (hpre : ∀ vm₁, s.WarmedH vm₁ → Pre ⟨T.setVm vm₁, locs, cells, slots⟩ (Value.ref b :: argsL).toArray) :
    (∃ (v : Option Value) (vm₁ : Vm) (B : Pt), s.WarmedH vm₁ ∧ Stand p l e R s m args below meth c B.U B.locs B.cells B.slots ∧ Post ⟨T.setVm vm₁, locs, cells, slots⟩ (Value.ref b :: argsL).toArray v B ∧
      ∀ target, Steps p.tables e below (B.U.setTop { g with pc := g.pc + 3, stack := v.toList ++ rest }) target → Steps p.tables e below (T.setTop g) target) ∨
    (∃ (q : Addr) (vm₁ : Vm) (B : Pt), s.WarmedH vm₁ ∧ Stand p l e R s m args below meth c B.U B.locs B.cells B.slots ∧ PostX ⟨T.setVm vm₁, locs, cells, slots⟩ (Value.ref b :: argsL).toArray q B ∧
      Steps p.tables e below (T.setTop g) ((B.U.setTop { g with stack := rest }).pushFrame (.throwing q))) := by
  obtain ⟨mk, methM, hnamed, hmethM, hstM, habM⟩ := Cond.instanceMethod_spec hinst
  obtain ⟨m8, methM', cM, hn8, hmethM', -, -, -, -, -, -, hsigM⟩ := Cond.codeWith_spec hcode
  cases Option.some.inj (hn8.symm.trans hnamed)
  cases hmethM.symm.trans hmethM'
  obtain ⟨c2, r2, m2, q1, q2, q3, q4, kP, hkP, hkPi⟩ := Cond.selects_spec hsel
  cases hcls.symm.trans q1
  cases (State.methodFound?_of_named hnamed hy).symm.trans q2
  cases hnamed.symm.trans q3
  have hselP : selectMethod e.platform s.vm cellB.cls mk = .method mk := by rw [Launch.admits_selectMethod X.admits]; exact q4
  obtain ⟨vm₁, X₁, hstep₁⟩ := X.invokevirtual hexec hown hlink hnamed hmethM hstM hkP hkPi hy (a := b) (cell := cellB) hcell
    (fun z h => by rw [h] at hobj; cases hobj) hselP hmethM habM hkP hkPi (g := g) hg (argsL := argsL) (rest := rest) (hlen _ hsigM) hstack hdg
  rcases hK m meth c ⟨T.setVm vm₁, locs, cells, slots⟩ { g with stack := rest } (.invokevirtual index) mk (Value.ref b :: argsL).toArray X₁ hg hsize hdg hW (X₁.named hnamed) (hpre vm₁ X₁.warmed) with ⟨v, B, X', hpost, hsteps⟩ | ⟨q, B, X', hpost, hsteps⟩
  · exact Or.inl ⟨v, vm₁, B, X₁.warmed, X', hpost, fun target h => hstep₁ _ fun acts => by rw [doInvoke_state]; exact hsteps.trans h⟩
  · exact Or.inr ⟨q, vm₁, B, X₁.warmed, X', hpost, hstep₁ _ fun acts => by rw [doInvoke_state]; exact hsteps⟩
theorem vx_callSX (X : Stand p l e R s m args below meth c T locs cells slots) (hexec : p.tables.exec = Jvm.exec) {own : String} {index : Nat} {y : MethodName} {bytes : ByteArray} {maxL : Nat} {ret : Option FieldType} {hh : List (Nat × Nat × Nat × Nat)}
    (hown : s.vm.findClass own = some m.cls) (hlink : (Cond.methodLink own index y).before args s = true) (hstat : (Cond.static y).before args s = true) (hinit : (Cond.initialized y.cls).before args s = true)
    (hcode : (Cond.codeWith y bytes maxL ret hh).before args s = true) (hy : y.cls ≠ "java/lang/invoke/MethodHandle" ∧ y.cls ≠ "java/lang/invoke/VarHandle")
    {W9 : Nat} {Pre : Pt → Array Value → Prop} {Post : Pt → Array Value → Option Value → Pt → Prop} {PostX : Pt → Array Value → Addr → Pt → Prop} (hK : vx_Back l R p e below s args y 3 W9 Pre Post PostX)
    {g : JFrame} (hg : g.method = m) (hsize : g.locals.size = c.maxLocals) {argsL rest : List Value} (hlen : ∀ sig, parseMethodDescriptor y.desc = some sig → argsL.length = sig.parameters.length)
    (hstack : g.stack = argsL.reverse ++ rest) (hW : 2 * g.monitorRoom + (rest.map fun v => v.category).sum ≤ W9) (hdg : decode c.code g.pc = .ok (.invokestatic index, 3))
    (hpre : ∀ vm₁, s.WarmedH vm₁ → Pre ⟨T.setVm vm₁, locs, cells, slots⟩ argsL.toArray) :
    (∃ (v : Option Value) (vm₁ : Vm) (B : Pt), s.WarmedH vm₁ ∧ Stand p l e R s m args below meth c B.U B.locs B.cells B.slots ∧ Post ⟨T.setVm vm₁, locs, cells, slots⟩ argsL.toArray v B ∧
      ∀ target, Steps p.tables e below (B.U.setTop { g with pc := g.pc + 3, stack := v.toList ++ rest }) target → Steps p.tables e below (T.setTop g) target) ∨
    (∃ (q : Addr) (vm₁ : Vm) (B : Pt), s.WarmedH vm₁ ∧ Stand p l e R s m args below meth c B.U B.locs B.cells B.slots ∧ PostX ⟨T.setVm vm₁, locs, cells, slots⟩ argsL.toArray q B ∧
      Steps p.tables e below (T.setTop g) ((B.U.setTop { g with stack := rest }).pushFrame (.throwing q))) := by
  obtain ⟨mk, methM, cM, hnamed, hmethM, -, -, -, -, -, -, hsigM⟩ := Cond.codeWith_spec hcode
  have hstatic : methM.isStatic = true := Cond.static_spec hnamed hmethM hstat
  obtain ⟨kP, hkP, -⟩ := className_of_methodNamed hnamed
  have hinitP : kP.init = .initialized := Cond.initialized_spec (findClass_of_methodNamed hnamed) hkP hinit
  obtain ⟨vm₁, X₁, hstep₁⟩ := X.invokestatic hexec hown hlink hnamed hmethM hstatic hkP hinitP hy (g := g) hg (argsL := argsL) (rest := rest) (hlen _ hsigM) hstack hdg
  rcases hK m meth c ⟨T.setVm vm₁, locs, cells, slots⟩ { g with stack := rest } (.invokestatic index) mk argsL.toArray X₁ hg hsize hdg hW (X₁.named hnamed) (hpre vm₁ X₁.warmed) with ⟨v, B, X', hpost, hsteps⟩ | ⟨q, B, X', hpost, hsteps⟩
  · exact Or.inl ⟨v, vm₁, B, X₁.warmed, X', hpost, fun target h => hstep₁ _ fun acts => by rw [doInvoke_state]; exact hsteps.trans h⟩
  · exact Or.inr ⟨q, vm₁, B, X₁.warmed, X', hpost, hstep₁ _ fun acts => by rw [doInvoke_state]; exact hsteps⟩
theorem vx_callVW (X : Stand p l e R s m args below meth c T locs cells slots) (hexec : p.tables.exec = Jvm.exec) {own C : String} {index : Nat} {y : MethodName} {bytes : ByteArray} {maxL : Nat} {ret : Option FieldType} {hh : List (Nat × Nat × Nat × Nat)}
    (hown : s.vm.findClass own = some m.cls) (hlink : (Cond.methodLink own index y).before args s = true) (hinst : (Cond.instanceMethod y).before args s = true) (hsel : (Cond.selects C y y).before args s = true)
    (hcode : (Cond.codeWith y bytes maxL ret hh).before args s = true) (hy : y.cls ≠ "java/lang/invoke/MethodHandle" ∧ y.cls ≠ "java/lang/invoke/VarHandle")
    {W9 : Nat} {Pre : Pt → Array Value → Prop} {Post : Pt → Array Value → Option Value → Pt → Prop} (hK : Back l R p e below s args y 3 W9 Pre Post)
    {b : Addr} {cellB : Cell} (hcell : T.heap[b]? = some cellB) (hobj : cellB.vm.isStatics = false) (hcls : s.vm.findClass C = some cellB.cls)
    {g : JFrame} (hg : g.method = m) (hsize : g.locals.size = c.maxLocals) {argsL rest : List Value} (hlen : ∀ sig, parseMethodDescriptor y.desc = some sig → argsL.length = sig.parameters.length)
    (hstack : g.stack = argsL.reverse ++ .ref b :: rest) (hW : 2 * g.monitorRoom + (rest.map fun v => v.category).sum ≤ W9) (hdg : decode c.code g.pc = .ok (.invokevirtual index, 3))
    (hpre : ∀ vm₁, s.WarmedH vm₁ → Pre ⟨T.setVm vm₁, locs, cells, slots⟩ (Value.ref b :: argsL).toArray) :
    ∃ (v : Option Value) (vm₁ : Vm) (B : Pt), s.WarmedH vm₁ ∧ Stand p l e R s m args below meth c B.U B.locs B.cells B.slots ∧ Post ⟨T.setVm vm₁, locs, cells, slots⟩ (Value.ref b :: argsL).toArray v B ∧
      ∀ target, Steps p.tables e below (B.U.setTop { g with pc := g.pc + 3, stack := v.toList ++ rest }) target → Steps p.tables e below (T.setTop g) target := by
  obtain ⟨mk, methM, hnamed, hmethM, hstM, habM⟩ := Cond.instanceMethod_spec hinst
  obtain ⟨m8, methM', cM, hn8, hmethM', -, -, -, -, -, -, hsigM⟩ := Cond.codeWith_spec hcode
  cases Option.some.inj (hn8.symm.trans hnamed)
  cases hmethM.symm.trans hmethM'
  obtain ⟨c2, r2, m2, q1, q2, q3, q4, kP, hkP, hkPi⟩ := Cond.selects_spec hsel
  cases hcls.symm.trans q1
  cases (State.methodFound?_of_named hnamed hy).symm.trans q2
  cases hnamed.symm.trans q3
  have hselP : selectMethod e.platform s.vm cellB.cls mk = .method mk := by rw [Launch.admits_selectMethod X.admits]; exact q4
  obtain ⟨vm₁, X₁, hstep₁⟩ := X.invokevirtual hexec hown hlink hnamed hmethM hstM hkP hkPi hy (a := b) (cell := cellB) hcell
    (fun z h => by rw [h] at hobj; cases hobj) hselP hmethM habM hkP hkPi (g := g) hg (argsL := argsL) (rest := rest) (hlen _ hsigM) hstack hdg
  obtain ⟨v, B, X', hpost, hsteps⟩ := hK m meth c ⟨T.setVm vm₁, locs, cells, slots⟩ { g with stack := rest } (.invokevirtual index) mk (Value.ref b :: argsL).toArray X₁ hg hsize hdg hW (X₁.named hnamed) (hpre vm₁ X₁.warmed)
  exact ⟨v, vm₁, B, X₁.warmed, X', hpost, fun target h => hstep₁ _ fun acts => by rw [doInvoke_state]; exact hsteps.trans h⟩
abbrev vx_CVW (R : Room) (s : State) (args : Array Value) (own C : String) (index : Nat) (y : MethodName) (bytes : ByteArray) (maxL : Nat) (ret : Option FieldType) (hh : List (Nat × Nat × Nat × Nat)) (ws : List Cond) (rm : Room) (mc ms n : Nat) : Prop :=
  (rm.cells = mc ∧ rm.slots = ms ∧ rm.frames + 1 ≤ R.frames ∧ 8 + (maxL + 11) + rm.locals ≤ R.locals ∧ (∀ w ∈ ws, ∀ (a' : Array Value) (U : State), s.WarmedH U.vm → w.before a' U = true) ∧ Cond.codeWith y bytes maxL ret hh ∈ ws) ∧
  (Cond.codeWith y bytes maxL ret hh).before args s = true ∧ (Cond.initialized y.cls).before args s = true ∧ (y.cls ≠ "java/lang/invoke/MethodHandle" ∧ y.cls ≠ "java/lang/invoke/VarHandle") ∧
  (∀ sig, parseMethodDescriptor y.desc = some sig → n = sig.parameters.length) ∧ (Cond.methodLink own index y).before args s = true ∧ (Cond.instanceMethod y).before args s = true ∧ (Cond.selects C y y).before args s = true
theorem vx_cwVW {own C : String} {index maxL mc ms : Nat} {y : MethodName} {bytes : ByteArray} {ret : Option FieldType} {hh : List (Nat × Nat × Nat × Nat)} {Ts ws ws' : List Cond} {rm : Room} (n : Nat) (ht : ∀ w ∈ Ts, w.before args s = true) (hT : GoodIn Ts (wsV own index C y ws)) (hw : ws = Cond.codeWith y bytes maxL ret hh :: ws') (hrc : rm.cells = mc) (hrs : rm.slots = ms)
    (hd : y.cls = C ∧ y.cls ≠ "java/lang/invoke/MethodHandle" ∧ y.cls ≠ "java/lang/invoke/VarHandle" ∧ (parseMethodDescriptor y.desc).map (fun d => d.parameters.length) = some n) (hR : rm.frames + 1 ≤ R.frames ∧ 8 + (maxL + 11) + rm.locals ≤ R.locals) :
    vx_CVW R s args own C index y bytes maxL ret hh ws rm mc ms n := by
  obtain ⟨hC, hd⟩ := hd
  subst hC
  have ok : ∀ w ∈ wsV own index y.cls y ws, w.before args s = true := fun w h => ht w (hT w h).1
  have hG : GoodIn Ts ws := fun w h => hT w (by unfold wsV; exact List.mem_append_right _ h)
  have hc : Cond.codeWith y bytes maxL ret hh ∈ ws := by rw [hw]; exact List.mem_cons_self
  refine ⟨⟨hrc, hrs, hR.1, hR.2, pay_in ht hG, hc⟩, ht _ (hG _ hc).1, ok _ (by simp [wsV]), ⟨hd.1, hd.2.1⟩, fun sig h => ?_, ok _ (by simp [wsV]), ok _ (by simp [wsV]), ok _ (by simp [wsV])⟩
  have h2 := hd.2.2
  rw [h] at h2
  exact (Option.some.inj h2).symm
theorem vx_runVW {y : MethodName} {bytes cc : ByteArray} {maxL nL mc ms n index : Nat} {ret : Option FieldType} {hh : List (Nat × Nat × Nat × Nat)} {ws : List Cond} {rm : Room} {Pc : Array Value → State → Prop} {Qc : Array Value → State → Outcome → State → Prop} {free : Addr → Prop} {Ts : List Cond} {own C : String} {b : Addr} {As rest : List Value} {g : JFrame}
    (S : CallFix p m c cc nL s args Ts own) (hM : Met l y ws rm Pc Qc mc ms free) (cw : vx_CVW R s args own C index y bytes maxL ret hh ws rm mc ms n) (hp : PreV s H C b Pc As)
    (hg : g.method = m) (hn : As.length = n) (hsize : g.locals.size = nL) (hstack : g.stack = As.reverse ++ .ref b :: rest) (hW : 2 * g.monitorRoom + (rest.map fun v => v.category).sum ≤ 8) (hdg : decode cc g.pc = .ok (.invokevirtual index, 3)) (hf : cells + mc ≤ R.cells ∧ slots + ms ≤ R.slots) :
    va_Run p l e R s m args below meth c H locs cells slots mc ms g rest (Qc (Value.ref b :: As).toArray) free := by
  obtain ⟨⟨hrc, hrs, hfr, hlo, hws, hcw⟩, hcode, hini, hy, hlen, hl, hin, hse⟩ := cw
  have hK : Back l R p e below s args y 3 8 (PreOf R mc ms Pc) (PostOf Qc mc ms free) := va_backW (hh := hh) (bytes := bytes) (maxL := maxL) (ret := ret) hM hp.1 hrc hrs hfr hlo hws hcw (fun a' U hW => word_at hW (Or.inl (by first | rfl | simp [Cond.onTables, Cond.keeps, Cond.steady])) hini)
  obtain ⟨hx, hb, hml, ho, -⟩ := S
  obtain ⟨-, ⟨cellB, hcB, hoB, hclB⟩, hPc⟩ := hp
  intro T hT X
  obtain ⟨v, vm₁, ⟨U', l2, c2, s2⟩, hW₁, X', ⟨g', mk, t, L, e1, e2, hq, h1, hL, h2, h3⟩, st⟩ := vx_callVW X hx (C := C) (hh := hh) (bytes := bytes) (maxL := maxL) (ret := ret) ho hl hin hse hcode hy hK (by rw [hT]; exact hcB) hoB hclB hg (hsize.trans hml.symm) (argsL := As) (rest := rest) (fun sig h => hn.trans (hlen sig h)) hstack hW (by rw [hb]; exact hdg)
    (fun vm₁ hW₁ => ⟨hf.1, hf.2, hPc (T.setVm vm₁) hT hW₁⟩)
  dsimp only [Pt.U, Pt.locs, Pt.cells, Pt.slots] at X' e1 e2 h1 h2 h3 st
  subst h1; subst h2; subst h3
  exact ⟨v, (T.setVm vm₁).calling g' mk (Value.ref b :: As).toArray, t, U', L, hT, X', hL, e1, e2, hq, st⟩
section
variable {y : MethodName} {bytes cc : ByteArray} {maxL nL mc ms n index : Nat} {ret : Option FieldType} {ws : List Cond} {rm : Room} {Pc : Array Value → State → Prop} {Qc : Array Value → State → Outcome → State → Prop} {XC : String → State → State → Prop} {free : Addr → Prop} {Ts : List Cond} {own C : String} {b : Addr} {As rest : List Value} {g : JFrame}
theorem vx_runVX {hh : List (Nat × Nat × Nat × Nat)} (S : CallFix p m c cc nL s args Ts own) (hM : vx_Met l y ws rm Pc Qc XC mc ms free) (cw : vx_CVW R s args own C index y bytes maxL ret hh ws rm mc ms n) (hp : PreV s H C b Pc As)
    (hg : g.method = m) (hn : As.length = n) (hsize : g.locals.size = nL) (hstack : g.stack = As.reverse ++ .ref b :: rest) (hW : 2 * g.monitorRoom + (rest.map fun v => v.category).sum ≤ 8) (hdg : decode cc g.pc = .ok (.invokevirtual index, 3)) (hf : cells + mc ≤ R.cells ∧ slots + ms ≤ R.slots) :
    vx_Run p l e R s m args below meth c H locs cells slots mc ms g rest (Qc (Value.ref b :: As).toArray) XC free := by
  obtain ⟨⟨hrc, hrs, hfr, hlo, hws, hcw⟩, hcode, hini, hy, hlen, hl, hin, hse⟩ := cw
  have hK : vx_Back l R p e below s args y 3 8 (PreOf R mc ms Pc) (PostOf Qc mc ms free) (vx_Post XC mc ms free) := vx_backW (hh := hh) (bytes := bytes) (maxL := maxL) (ret := ret) hM hp.1 hrc hrs hfr hlo hws hcw (fun a' U hW => word_at hW (Or.inl (by first | rfl | simp [Cond.onTables, Cond.keeps, Cond.steady])) hini)
  obtain ⟨hx, hb, hml, ho, -⟩ := S
  obtain ⟨-, ⟨cellB, hcB, hoB, hclB⟩, hPc⟩ := hp
  intro T hT X
  rcases vx_callVX X hx (C := C) (hh := hh) (bytes := bytes) (maxL := maxL) (ret := ret) ho hl hin hse hcode hy hK (by rw [hT]; exact hcB) hoB hclB hg (hsize.trans hml.symm) (argsL := As) (rest := rest) (fun sig h => hn.trans (hlen sig h)) hstack hW (by rw [hb]; exact hdg)
    (fun vm₁ hW₁ => ⟨hf.1, hf.2, hPc (T.setVm vm₁) hT hW₁⟩) with ⟨v, vm₁, ⟨U', l2, c2, s2⟩, hW₁, X', ⟨g', mk, t, L, e1, e2, hq, h1, hL, h2, h3⟩, st⟩ | ⟨q, vm₁, ⟨U', l2, c2, s2⟩, hW₁, X', ⟨g', mk, t, L, E, ce, e1, e2, hq, hce, hcv, hcl, h1, hL, h2, h3⟩, st⟩
  · dsimp only [Pt.U, Pt.locs, Pt.cells, Pt.slots] at X' e1 e2 h1 h2 h3 st
    subst h1; subst h2; subst h3
    exact Or.inl ⟨v, (T.setVm vm₁).calling g' mk (Value.ref b :: As).toArray, t, U', L, hT, X', hL, e1, e2, hq, st⟩
  · dsimp only [Pt.U, Pt.locs, Pt.cells, Pt.slots] at X' e1 e2 h1 h2 h3 st hcl
    subst h1; subst h2; subst h3
    exact Or.inr ⟨q, (T.setVm vm₁).calling g' mk (Value.ref b :: As).toArray, t, U', L, E, ce, hT, X', hL, e1, e2, hq, hce, hcv, vx_cls hW₁ hcl, st⟩
theorem vx_runSX {hh : List (Nat × Nat × Nat × Nat)} (S : CallFix p m c cc nL s args Ts own) (hM : vx_Met l y ws rm Pc Qc XC mc ms free) (cw : vx_CSW R s args own index y bytes maxL ret hh ws rm mc ms n) (hp : PreS s H Pc As)
    (hg : g.method = m) (hn : As.length = n) (hsize : g.locals.size = nL) (hstack : g.stack = As.reverse ++ rest) (hW : 2 * g.monitorRoom + (rest.map fun v => v.category).sum ≤ 8) (hdg : decode cc g.pc = .ok (.invokestatic index, 3)) (hf : cells + mc ≤ R.cells ∧ slots + ms ≤ R.slots) :
    vx_Run p l e R s m args below meth c H locs cells slots mc ms g rest (Qc As.toArray) XC free := by
  obtain ⟨⟨hrc, hrs, hfr, hlo, hws, hcw⟩, hcode, hini, hy, hlen, hl, hstt⟩ := cw
  have hK : vx_Back l R p e below s args y 3 8 (PreOf R mc ms Pc) (PostOf Qc mc ms free) (vx_Post XC mc ms free) := vx_backW (hh := hh) (bytes := bytes) (maxL := maxL) (ret := ret) hM hp.1 hrc hrs hfr hlo hws hcw (fun a' U hW => word_at hW (Or.inl (by first | rfl | simp [Cond.onTables, Cond.keeps, Cond.steady])) hini)
  obtain ⟨hx, hb, hml, ho, -⟩ := S
  intro T hT X
  rcases vx_callSX X hx (hh := hh) (bytes := bytes) (maxL := maxL) (ret := ret) ho hl hstt hini hcode hy hK hg (hsize.trans hml.symm) (argsL := As) (rest := rest) (fun sig h => hn.trans (hlen sig h)) hstack hW (by rw [hb]; exact hdg)
    (fun vm₁ hW₁ => ⟨hf.1, hf.2, hp.2 (T.setVm vm₁) hT hW₁⟩) with ⟨v, vm₁, ⟨U', l2, c2, s2⟩, hW₁, X', ⟨g', mk, t, L, e1, e2, hq, h1, hL, h2, h3⟩, st⟩ | ⟨q, vm₁, ⟨U', l2, c2, s2⟩, hW₁, X', ⟨g', mk, t, L, E, ce, e1, e2, hq, hce, hcv, hcl, h1, hL, h2, h3⟩, st⟩
  · dsimp only [Pt.U, Pt.locs, Pt.cells, Pt.slots] at X' e1 e2 h1 h2 h3 st
    subst h1; subst h2; subst h3
    exact Or.inl ⟨v, (T.setVm vm₁).calling g' mk As.toArray, t, U', L, hT, X', hL, e1, e2, hq, st⟩
  · dsimp only [Pt.U, Pt.locs, Pt.cells, Pt.slots] at X' e1 e2 h1 h2 h3 st hcl
    subst h1; subst h2; subst h3
    exact Or.inr ⟨q, (T.setVm vm₁).calling g' mk As.toArray, t, U', L, E, ce, hT, X', hL, e1, e2, hq, hce, hcv, vx_cls hW₁ hcl, st⟩
end
end VXH
theorem vx_ofWH {l : Launch} {y : MethodName} {ws ws' : List Cond} {rm : Room} {Pc : Array Value → State → Prop} {Qc : Array Value → State → Outcome → State → Prop} {XC : String → State → State → Prop} {mc ms : Nat} {free : Addr → Prop} {cc : ByteArray} {maxL : Nat} {ret : Option FieldType} {hh : List (Nat × Nat × Nat × Nat)}
    (hy : plainName y.cls = true) (hw : ws = Cond.codeWith y cc maxL ret hh :: ws')
    (body : ∀ p e s m args below meth c s₁, BodyLoose p l y (headSpec ws rm) cc maxL ret e s m args below meth c s₁ → c.maxLocals = maxL → Pc args s →
      W p l e (headSpec ws rm).room s m args below meth c s.heap [] 0 0 (vx_MQ below Qc XC args s mc ms free) (entryFrame m args maxL)) : vx_Met l y ws rm Pc Qc XC mc ms free := by
  refine MetFree.of_bodyS (code := cc) (maxLocals := maxL) (ret := ret) hy ?_ ?_
  · intro args s m h hn
    obtain ⟨m9, meth, c, hn9, h1, h2, h3, h4, -, h5, h6, -⟩ := Cond.codeWith_spec (atoms_spec (ws := ws) h _ (by rw [hw]; exact List.mem_cons_self))
    cases hn.symm.trans hn9
    exact ⟨meth, c, h1, h2, h3, h4, h5, h6⟩
  · intro p e s m args below meth c s₁ B hml hP _
    have hh0 : s₁.heap = s.heap := by rw [B.state]; rfl
    obtain ⟨t, a1, o, b1, b2, b3⟩ := body p e s m args below meth c s₁ B hml hP s₁ hh0 (Stand.of_body B)
    exact ⟨t, o, a1, b1, b2, b3⟩
/-! ===== END ===== -/

/-! ===== BEGIN printed: names, fields, word lists, decode rows ===== -/
def RX0 : String := "DeltaUpdater$Patch"
def TX0 : u_T := fun k => match k with
  | 0 => ("DeltaUpdater$Patch", "base", "I", true)
  | 1 => ("DeltaUpdater$Patch", "goal", "I", true)
  | 2 => ("DeltaUpdater$Patch", "goalRow", "LDeltaUpdater$Row;", true)
  | 3 => ("DeltaUpdater$Patch", "origins", "[I", true)
  | 4 => ("DeltaUpdater$Patch", "starts", "[I", true)
  | 5 => ("DeltaUpdater$Patch", "literalBytes", "I", true)
  | _ => ("DeltaUpdater$Patch", "price", "I", true)
def tyX0 : Nat → FieldType := fun k => match k with
  | 0 => .int
  | 1 => .int
  | 2 => .object "DeltaUpdater$Row"
  | 3 => .array .int
  | 4 => .array .int
  | 5 => .int
  | _ => .int
abbrev wsX00 : List Cond := u_ws RX0 TX0 7
theorem nmX0 : ∀ a, a < 7 → ∀ b, b < 7 → a ≠ b → (TX0 a).2.1 ≠ (TX0 b).2.1 := by decide +kernel
theorem tyX0_ok : ∀ k, k < 7 → parseFieldDescriptor (TX0 k).2.2.1 = some (tyX0 k) := by decide +kernel
abbrev cX0_init : ByteArray := prog_2_method_1_code
def yX0_init : MethodName := ⟨RX0, "<init>", "(IILDeltaUpdater$Row;[I)V"⟩
abbrev cX0_startsAt : ByteArray := prog_2_method_2_code
def yX0_startsAt : MethodName := ⟨RX0, "startsAt", "([II)Z"⟩
abbrev cX0_startsIn : ByteArray := prog_2_method_3_code
def yX0_startsIn : MethodName := ⟨RX0, "startsIn", "([I)[I"⟩
abbrev cX0_literalsIn : ByteArray := prog_2_method_4_code
def yX0_literalsIn : MethodName := ⟨RX0, "literalsIn", "([I)I"⟩
abbrev cX0_priceOf : ByteArray := prog_2_method_5_code
def yX0_priceOf : MethodName := ⟨RX0, "priceOf", "([I[II)I"⟩
abbrev cX0_tell : ByteArray := prog_2_method_6_code
def yX0_tell : MethodName := ⟨RX0, "tell", "(II)I"⟩
def RX1 : String := "DeltaUpdater$Row"
def TX1 : u_T := fun k => match k with
  | _ => ("DeltaUpdater$Row", "bytes", "[I", true)
def tyX1 : Nat → FieldType := fun k => match k with
  | _ => .array .int
abbrev wsX10 : List Cond := u_ws RX1 TX1 1
theorem nmX1 : ∀ a, a < 1 → ∀ b, b < 1 → a ≠ b → (TX1 a).2.1 ≠ (TX1 b).2.1 := by decide +kernel
theorem tyX1_ok : ∀ k, k < 1 → parseFieldDescriptor (TX1 k).2.2.1 = some (tyX1 k) := by decide +kernel
abbrev cX1_init : ByteArray := prog_3_method_1_code
def yX1_init : MethodName := ⟨RX1, "<init>", "([II)V"⟩
abbrev cX1_hasBytesOf : ByteArray := prog_3_method_2_code
def yX1_hasBytesOf : MethodName := ⟨RX1, "hasBytesOf", "(LDeltaUpdater$Row;)Z"⟩
abbrev cX1_hasStretch : ByteArray := prog_3_method_3_code
def yX1_hasStretch : MethodName := ⟨RX1, "hasStretch", "(ILDeltaUpdater$Row;II)Z"⟩
abbrev cX1_sumOf : ByteArray := prog_3_method_4_code
def yX1_sumOf : MethodName := ⟨RX1, "sumOf", "(II)I"⟩
def RX2 : String := "DeltaUpdater"
def TX2 : u_T := fun k => match k with
  | 0 => ("DeltaUpdater", "buffer", "[I", true)
  | 1 => ("DeltaUpdater", "buffered", "I", false)
  | 2 => ("DeltaUpdater", "stored", "Ljava/util/ArrayList;", true)
  | 3 => ("DeltaUpdater", "made", "Ljava/util/ArrayList;", true)
  | 4 => ("DeltaUpdater", "installed", "LDeltaUpdater$Row;", false)
  | 5 => ("DeltaUpdater", "history", "Ljava/util/ArrayList;", true)
  | 6 => ("DeltaUpdater", "blockSums", "[I", true)
  | _ => ("DeltaUpdater", "reached", "[I", true)
def tyX2 : Nat → FieldType := fun k => match k with
  | 0 => .array .int
  | 1 => .int
  | 2 => .object "java/util/ArrayList"
  | 3 => .object "java/util/ArrayList"
  | 4 => .object "DeltaUpdater$Row"
  | 5 => .object "java/util/ArrayList"
  | 6 => .array .int
  | _ => .array .int
abbrev wsX20 : List Cond := u_ws RX2 TX2 8
theorem nmX2 : ∀ a, a < 8 → ∀ b, b < 8 → a ≠ b → (TX2 a).2.1 ≠ (TX2 b).2.1 := by decide +kernel
theorem tyX2_ok : ∀ k, k < 8 → parseFieldDescriptor (TX2 k).2.2.1 = some (tyX2 k) := by decide +kernel
abbrev cX2_init : ByteArray := prog_1_method_1_code
def yX2_init : MethodName := ⟨RX2, "<init>", "()V"⟩
abbrev cX2_feed : ByteArray := prog_1_method_2_code
def yX2_feed : MethodName := ⟨RX2, "feed", "(JI)I"⟩
abbrev cX2_store : ByteArray := prog_1_method_3_code
def yX2_store : MethodName := ⟨RX2, "store", "()I"⟩
abbrev cX2_versions : ByteArray := prog_1_method_4_code
def yX2_versions : MethodName := ⟨RX2, "versions", "()I"⟩
abbrev cX2_length : ByteArray := prog_1_method_5_code
def yX2_length : MethodName := ⟨RX2, "length", "(I)I"⟩
abbrev cX2_byteAt : ByteArray := prog_1_method_6_code
def yX2_byteAt : MethodName := ⟨RX2, "byteAt", "(II)I"⟩
abbrev cX2_areSame : ByteArray := prog_1_method_7_code
def yX2_areSame : MethodName := ⟨RX2, "areSame", "(II)Z"⟩
abbrev cX2_weakSum : ByteArray := prog_1_method_8_code
def yX2_weakSum : MethodName := ⟨RX2, "weakSum", "(III)I"⟩
abbrev cX2_collisions : ByteArray := prog_1_method_9_code
def yX2_collisions : MethodName := ⟨RX2, "collisions", "(II)I"⟩
abbrev cX2_differentBlocks : ByteArray := prog_1_method_10_code
def yX2_differentBlocks : MethodName := ⟨RX2, "differentBlocks", "(II)I"⟩
abbrev cX2_difference : ByteArray := prog_1_method_11_code
def yX2_difference : MethodName := ⟨RX2, "difference", "(III)I"⟩
abbrev cX2_compose : ByteArray := prog_1_method_12_code
def yX2_compose : MethodName := ⟨RX2, "compose", "(II)I"⟩
abbrev cX2_patches : ByteArray := prog_1_method_13_code
def yX2_patches : MethodName := ⟨RX2, "patches", "()I"⟩
abbrev cX2_instructions : ByteArray := prog_1_method_14_code
def yX2_instructions : MethodName := ⟨RX2, "instructions", "(I)I"⟩
abbrev cX2_instruction : ByteArray := prog_1_method_15_code
def yX2_instruction : MethodName := ⟨RX2, "instruction", "(III)I"⟩
abbrev cX2_cost : ByteArray := prog_1_method_16_code
def yX2_cost : MethodName := ⟨RX2, "cost", "(I)I"⟩
abbrev cX2_newness : ByteArray := prog_1_method_17_code
def yX2_newness : MethodName := ⟨RX2, "newness", "(I)D"⟩
abbrev cX2_apply : ByteArray := prog_1_method_18_code
def yX2_apply : MethodName := ⟨RX2, "apply", "(II)I"⟩
abbrev cX2_steps : ByteArray := prog_1_method_19_code
def yX2_steps : MethodName := ⟨RX2, "steps", "(II)I"⟩
abbrev cX2_leastCost : ByteArray := prog_1_method_20_code
def yX2_leastCost : MethodName := ⟨RX2, "leastCost", "(II)I"⟩
abbrev cX2_installVersion : ByteArray := prog_1_method_21_code
def yX2_installVersion : MethodName := ⟨RX2, "installVersion", "(I)I"⟩
abbrev cX2_installPatch : ByteArray := prog_1_method_22_code
def yX2_installPatch : MethodName := ⟨RX2, "installPatch", "(I)I"⟩
abbrev cX2_rollBack : ByteArray := prog_1_method_23_code
def yX2_rollBack : MethodName := ⟨RX2, "rollBack", "()I"⟩
abbrev cX2_isInstalled : ByteArray := prog_1_method_24_code
def yX2_isInstalled : MethodName := ⟨RX2, "isInstalled", "(I)Z"⟩
abbrev cX2_installedLength : ByteArray := prog_1_method_25_code
def yX2_installedLength : MethodName := ⟨RX2, "installedLength", "()I"⟩
abbrev cX2_digest : ByteArray := prog_1_method_26_code
def yX2_digest : MethodName := ⟨RX2, "digest", "()J"⟩
abbrev cX2_rowOf : ByteArray := prog_1_method_27_code
def yX2_rowOf : MethodName := ⟨RX2, "rowOf", "(I)LDeltaUpdater$Row;"⟩
abbrev cX2_patchOf : ByteArray := prog_1_method_28_code
def yX2_patchOf : MethodName := ⟨RX2, "patchOf", "(I)LDeltaUpdater$Patch;"⟩
abbrev cX2_checkSize : ByteArray := prog_1_method_29_code
def yX2_checkSize : MethodName := ⟨RX2, "checkSize", "(I)V"⟩
abbrev cX2_checkRoomForVersion : ByteArray := prog_1_method_30_code
def yX2_checkRoomForVersion : MethodName := ⟨RX2, "checkRoomForVersion", "()V"⟩
abbrev cX2_checkRoomForPatch : ByteArray := prog_1_method_31_code
def yX2_checkRoomForPatch : MethodName := ⟨RX2, "checkRoomForPatch", "()V"⟩
abbrev cX2_firstLike : ByteArray := prog_1_method_32_code
def yX2_firstLike : MethodName := ⟨RX2, "firstLike", "(I)I"⟩
abbrev cX2_firstBlock : ByteArray := prog_1_method_33_code
def yX2_firstBlock : MethodName := ⟨RX2, "firstBlock", "(LDeltaUpdater$Row;LDeltaUpdater$Row;II)I"⟩
abbrev cX2_blockToCopy : ByteArray := prog_1_method_34_code
def yX2_blockToCopy : MethodName := ⟨RX2, "blockToCopy", "(LDeltaUpdater$Row;LDeltaUpdater$Row;III)I"⟩
abbrev cX2_originsByBlocks : ByteArray := prog_1_method_35_code
def yX2_originsByBlocks : MethodName := ⟨RX2, "originsByBlocks", "(LDeltaUpdater$Row;LDeltaUpdater$Row;I)[I"⟩
abbrev cX2_originsThrough : ByteArray := prog_1_method_36_code
def yX2_originsThrough : MethodName := ⟨RX2, "originsThrough", "([I[I)[I"⟩
abbrev cX2_leastWay : ByteArray := prog_1_method_37_code
def yX2_leastWay : MethodName := ⟨RX2, "leastWay", "(IIZ)I"⟩
abbrev cX2_reachBy : ByteArray := prog_1_method_38_code
def yX2_reachBy : MethodName := ⟨RX2, "reachBy", "(LDeltaUpdater$Patch;I)V"⟩
abbrev cX2_install : ByteArray := prog_1_method_39_code
def yX2_install : MethodName := ⟨RX2, "install", "(LDeltaUpdater$Row;)I"⟩
abbrev cX2_digestOfBytes : ByteArray := prog_1_method_40_code
def yX2_digestOfBytes : MethodName := ⟨RX2, "digestOfBytes", "(J[II)J"⟩
abbrev cX2_digestOfPatch : ByteArray := prog_1_method_41_code
def yX2_digestOfPatch : MethodName := ⟨RX2, "digestOfPatch", "(JLDeltaUpdater$Patch;)J"⟩
def RX3 : String := "DeltaUpdaterModel"
def TX3 : u_T := fun k => match k with
  | 0 => ("DeltaUpdaterModel", "thrown", "I", false)
  | 1 => ("DeltaUpdaterModel", "buffered", "I", false)
  | 2 => ("DeltaUpdaterModel", "buffer", "[I", true)
  | 3 => ("DeltaUpdaterModel", "versions", "I", false)
  | 4 => ("DeltaUpdaterModel", "rows", "[[I", true)
  | 5 => ("DeltaUpdaterModel", "patches", "I", false)
  | 6 => ("DeltaUpdaterModel", "bases", "[[I", true)
  | 7 => ("DeltaUpdaterModel", "goals", "[[I", true)
  | 8 => ("DeltaUpdaterModel", "origins", "[[I", true)
  | 9 => ("DeltaUpdaterModel", "installed", "[I", false)
  | 10 => ("DeltaUpdaterModel", "remembered", "I", false)
  | _ => ("DeltaUpdaterModel", "history", "[[I", true)
def tyX3 : Nat → FieldType := fun k => match k with
  | 0 => .int
  | 1 => .int
  | 2 => .array .int
  | 3 => .int
  | 4 => .array (.array .int)
  | 5 => .int
  | 6 => .array (.array .int)
  | 7 => .array (.array .int)
  | 8 => .array (.array .int)
  | 9 => .array .int
  | 10 => .int
  | _ => .array (.array .int)
abbrev wsX30 : List Cond := u_ws RX3 TX3 12
theorem nmX3 : ∀ a, a < 12 → ∀ b, b < 12 → a ≠ b → (TX3 a).2.1 ≠ (TX3 b).2.1 := by decide +kernel
theorem tyX3_ok : ∀ k, k < 12 → parseFieldDescriptor (TX3 k).2.2.1 = some (tyX3 k) := by decide +kernel
abbrev cX3_init : ByteArray := prog_5_method_1_code
def yX3_init : MethodName := ⟨RX3, "<init>", "()V"⟩
abbrev cX3_thrown : ByteArray := prog_5_method_2_code
def yX3_thrown : MethodName := ⟨RX3, "thrown", "()I"⟩
abbrev cX3_fail : ByteArray := prog_5_method_3_code
def yX3_fail : MethodName := ⟨RX3, "fail", "(I)I"⟩
abbrev cX3_isIn : ByteArray := prog_5_method_4_code
def yX3_isIn : MethodName := ⟨RX3, "isIn", "(III)Z"⟩
abbrev cX3_isVersion : ByteArray := prog_5_method_5_code
def yX3_isVersion : MethodName := ⟨RX3, "isVersion", "(I)Z"⟩
abbrev cX3_isPatch : ByteArray := prog_5_method_6_code
def yX3_isPatch : MethodName := ⟨RX3, "isPatch", "(I)Z"⟩
abbrev cX3_isSize : ByteArray := prog_5_method_7_code
def yX3_isSize : MethodName := ⟨RX3, "isSize", "(I)Z"⟩
abbrev cX3_are : ByteArray := prog_5_method_8_code
def yX3_are : MethodName := ⟨RX3, "are", "([I[I)Z"⟩
abbrev cX3_feed : ByteArray := prog_5_method_9_code
def yX3_feed : MethodName := ⟨RX3, "feed", "(JI)I"⟩
abbrev cX3_keep : ByteArray := prog_5_method_10_code
def yX3_keep : MethodName := ⟨RX3, "keep", "([I)I"⟩
abbrev cX3_store : ByteArray := prog_5_method_11_code
def yX3_store : MethodName := ⟨RX3, "store", "()I"⟩
abbrev cX3_versions : ByteArray := prog_5_method_12_code
def yX3_versions : MethodName := ⟨RX3, "versions", "()I"⟩
abbrev cX3_length : ByteArray := prog_5_method_13_code
def yX3_length : MethodName := ⟨RX3, "length", "(I)I"⟩
abbrev cX3_byteAt : ByteArray := prog_5_method_14_code
def yX3_byteAt : MethodName := ⟨RX3, "byteAt", "(II)I"⟩
abbrev cX3_areSame : ByteArray := prog_5_method_15_code
def yX3_areSame : MethodName := ⟨RX3, "areSame", "(II)Z"⟩
abbrev cX3_sumOf : ByteArray := prog_5_method_16_code
def yX3_sumOf : MethodName := ⟨RX3, "sumOf", "([III)I"⟩
abbrev cX3_weakSum : ByteArray := prog_5_method_17_code
def yX3_weakSum : MethodName := ⟨RX3, "weakSum", "(III)I"⟩
abbrev cX3_isLike : ByteArray := prog_5_method_18_code
def yX3_isLike : MethodName := ⟨RX3, "isLike", "([II[III)Z"⟩
abbrev cX3_collisions : ByteArray := prog_5_method_19_code
def yX3_collisions : MethodName := ⟨RX3, "collisions", "(II)I"⟩
abbrev cX3_differentBlocks : ByteArray := prog_5_method_20_code
def yX3_differentBlocks : MethodName := ⟨RX3, "differentBlocks", "(II)I"⟩
abbrev cX3_blockLike : ByteArray := prog_5_method_21_code
def yX3_blockLike : MethodName := ⟨RX3, "blockLike", "([II[III)I"⟩
abbrev cX3_add : ByteArray := prog_5_method_22_code
def yX3_add : MethodName := ⟨RX3, "add", "([I[I[I)I"⟩
abbrev cX3_difference : ByteArray := prog_5_method_23_code
def yX3_difference : MethodName := ⟨RX3, "difference", "(III)I"⟩
abbrev cX3_compose : ByteArray := prog_5_method_24_code
def yX3_compose : MethodName := ⟨RX3, "compose", "(II)I"⟩
abbrev cX3_patches : ByteArray := prog_5_method_25_code
def yX3_patches : MethodName := ⟨RX3, "patches", "()I"⟩
abbrev cX3_begins : ByteArray := prog_5_method_26_code
def yX3_begins : MethodName := ⟨RX3, "begins", "(II)Z"⟩
abbrev cX3_many : ByteArray := prog_5_method_27_code
def yX3_many : MethodName := ⟨RX3, "many", "(I)I"⟩
abbrev cX3_instructions : ByteArray := prog_5_method_28_code
def yX3_instructions : MethodName := ⟨RX3, "instructions", "(I)I"⟩
abbrev cX3_told : ByteArray := prog_5_method_29_code
def yX3_told : MethodName := ⟨RX3, "told", "(III)I"⟩
abbrev cX3_instruction : ByteArray := prog_5_method_30_code
def yX3_instruction : MethodName := ⟨RX3, "instruction", "(III)I"⟩
abbrev cX3_literals : ByteArray := prog_5_method_31_code
def yX3_literals : MethodName := ⟨RX3, "literals", "(I)I"⟩
abbrev cX3_costOf : ByteArray := prog_5_method_32_code
def yX3_costOf : MethodName := ⟨RX3, "costOf", "(I)I"⟩
abbrev cX3_cost : ByteArray := prog_5_method_33_code
def yX3_cost : MethodName := ⟨RX3, "cost", "(I)I"⟩
abbrev cX3_newness : ByteArray := prog_5_method_34_code
def yX3_newness : MethodName := ⟨RX3, "newness", "(I)D"⟩
abbrev cX3_apply : ByteArray := prog_5_method_35_code
def yX3_apply : MethodName := ⟨RX3, "apply", "(II)I"⟩
abbrev cX3_lead : ByteArray := prog_5_method_36_code
def yX3_lead : MethodName := ⟨RX3, "lead", "([I[IZ)I"⟩
abbrev cX3_steps : ByteArray := prog_5_method_37_code
def yX3_steps : MethodName := ⟨RX3, "steps", "(II)I"⟩
abbrev cX3_leastCost : ByteArray := prog_5_method_38_code
def yX3_leastCost : MethodName := ⟨RX3, "leastCost", "(II)I"⟩
abbrev cX3_install : ByteArray := prog_5_method_39_code
def yX3_install : MethodName := ⟨RX3, "install", "([I)I"⟩
abbrev cX3_installVersion : ByteArray := prog_5_method_40_code
def yX3_installVersion : MethodName := ⟨RX3, "installVersion", "(I)I"⟩
abbrev cX3_installPatch : ByteArray := prog_5_method_41_code
def yX3_installPatch : MethodName := ⟨RX3, "installPatch", "(I)I"⟩
abbrev cX3_rollBack : ByteArray := prog_5_method_42_code
def yX3_rollBack : MethodName := ⟨RX3, "rollBack", "()I"⟩
abbrev cX3_isInstalled : ByteArray := prog_5_method_43_code
def yX3_isInstalled : MethodName := ⟨RX3, "isInstalled", "(I)Z"⟩
abbrev cX3_installedLength : ByteArray := prog_5_method_44_code
def yX3_installedLength : MethodName := ⟨RX3, "installedLength", "()I"⟩
abbrev cX3_with : ByteArray := prog_5_method_45_code
def yX3_with : MethodName := ⟨RX3, "with", "(J[II)J"⟩
abbrev cX3_digest : ByteArray := prog_5_method_46_code
def yX3_digest : MethodName := ⟨RX3, "digest", "()J"⟩
def RJx145de : String := "java/io/Serializable"
def TJx145de : u_T := fun k => match k with
  | _ => ("", "", "", false)
def tyJx145de : Nat → FieldType := fun k => match k with
  | _ => .int
abbrev wsJx145de0 : List Cond := u_ws RJx145de TJx145de 0
theorem nmJx145de : ∀ a, a < 0 → ∀ b, b < 0 → a ≠ b → (TJx145de a).2.1 ≠ (TJx145de b).2.1 := by decide +kernel
theorem tyJx145de_ok : ∀ k, k < 0 → parseFieldDescriptor (TJx145de k).2.2.1 = some (tyJx145de k) := by decide +kernel
def RJx8e188 : String := "java/lang/Cloneable"
def TJx8e188 : u_T := fun k => match k with
  | _ => ("", "", "", false)
def tyJx8e188 : Nat → FieldType := fun k => match k with
  | _ => .int
abbrev wsJx8e1880 : List Cond := u_ws RJx8e188 TJx8e188 0
theorem nmJx8e188 : ∀ a, a < 0 → ∀ b, b < 0 → a ≠ b → (TJx8e188 a).2.1 ≠ (TJx8e188 b).2.1 := by decide +kernel
theorem tyJx8e188_ok : ∀ k, k < 0 → parseFieldDescriptor (TJx8e188 k).2.2.1 = some (tyJx8e188 k) := by decide +kernel
def RJxab1ab : String := "java/lang/Iterable"
def TJxab1ab : u_T := fun k => match k with
  | _ => ("", "", "", false)
def tyJxab1ab : Nat → FieldType := fun k => match k with
  | _ => .int
abbrev wsJxab1ab0 : List Cond := u_ws RJxab1ab TJxab1ab 0
theorem nmJxab1ab : ∀ a, a < 0 → ∀ b, b < 0 → a ≠ b → (TJxab1ab a).2.1 ≠ (TJxab1ab b).2.1 := by decide +kernel
theorem tyJxab1ab_ok : ∀ k, k < 0 → parseFieldDescriptor (TJxab1ab k).2.2.1 = some (tyJxab1ab k) := by decide +kernel
def RJ9 : String := "java/lang/Math"
def TJ9 : u_T := fun k => match k with
  | _ => ("", "", "", false)
def tyJ9 : Nat → FieldType := fun k => match k with
  | _ => .int
abbrev wsJ90 : List Cond := u_ws RJ9 TJ9 0
theorem nmJ9 : ∀ a, a < 0 → ∀ b, b < 0 → a ≠ b → (TJ9 a).2.1 ≠ (TJ9 b).2.1 := by decide +kernel
theorem tyJ9_ok : ∀ k, k < 0 → parseFieldDescriptor (TJ9 k).2.2.1 = some (tyJ9 k) := by decide +kernel
abbrev cJ9_max_7cf53 : ByteArray := prog_13_method_65_code
def yJ9_max_7cf53 : MethodName := ⟨RJ9, "max", "(II)I"⟩
abbrev cJ9_min_7cf53 : ByteArray := prog_13_method_69_code
def yJ9_min_7cf53 : MethodName := ⟨RJ9, "min", "(II)I"⟩
def RJ0 : String := "java/lang/String"
def TJ0 : u_T := fun k => match k with
  | _ => ("", "", "", false)
def tyJ0 : Nat → FieldType := fun k => match k with
  | _ => .int
abbrev wsJ00 : List Cond := u_ws RJ0 TJ0 0
theorem nmJ0 : ∀ a, a < 0 → ∀ b, b < 0 → a ≠ b → (TJ0 a).2.1 ≠ (TJ0 b).2.1 := by decide +kernel
theorem tyJ0_ok : ∀ k, k < 0 → parseFieldDescriptor (TJ0 k).2.2.1 = some (tyJ0 k) := by decide +kernel
def RJ10 : String := "java/lang/System"
def TJ10 : u_T := fun k => match k with
  | _ => ("", "", "", false)
def tyJ10 : Nat → FieldType := fun k => match k with
  | _ => .int
abbrev wsJ100 : List Cond := u_ws RJ10 TJ10 0
theorem nmJ10 : ∀ a, a < 0 → ∀ b, b < 0 → a ≠ b → (TJ10 a).2.1 ≠ (TJ10 b).2.1 := by decide +kernel
theorem tyJ10_ok : ∀ k, k < 0 → parseFieldDescriptor (TJ10 k).2.2.1 = some (tyJ10 k) := by decide +kernel
def RJxa1e45 : String := "java/util/AbstractCollection"
def TJxa1e45 : u_T := fun k => match k with
  | _ => ("", "", "", false)
def tyJxa1e45 : Nat → FieldType := fun k => match k with
  | _ => .int
abbrev wsJxa1e450 : List Cond := u_ws RJxa1e45 TJxa1e45 0
theorem nmJxa1e45 : ∀ a, a < 0 → ∀ b, b < 0 → a ≠ b → (TJxa1e45 a).2.1 ≠ (TJxa1e45 b).2.1 := by decide +kernel
theorem tyJxa1e45_ok : ∀ k, k < 0 → parseFieldDescriptor (TJxa1e45 k).2.2.1 = some (tyJxa1e45 k) := by decide +kernel
abbrev cJxa1e45_init_da8c8 : ByteArray := prog_18_method_1_code
def yJxa1e45_init_da8c8 : MethodName := ⟨RJxa1e45, "<init>", "()V"⟩
def RJxc12de : String := "java/util/AbstractList"
def TJxc12de : u_T := fun k => match k with
  | _ => ("", "", "", false)
def tyJxc12de : Nat → FieldType := fun k => match k with
  | _ => .int
abbrev wsJxc12de0 : List Cond := u_ws RJxc12de TJxc12de 0
theorem nmJxc12de : ∀ a, a < 0 → ∀ b, b < 0 → a ≠ b → (TJxc12de a).2.1 ≠ (TJxc12de b).2.1 := by decide +kernel
theorem tyJxc12de_ok : ∀ k, k < 0 → parseFieldDescriptor (TJxc12de k).2.2.1 = some (tyJxc12de k) := by decide +kernel
abbrev cJxc12de_init_da8c8 : ByteArray := prog_19_method_1_code
def yJxc12de_init_da8c8 : MethodName := ⟨RJxc12de, "<init>", "()V"⟩
def RJx4a65c : String := "java/util/ArrayList"
def TJx4a65c : u_T := fun k => match k with
  | 0 => ("java/util/AbstractList", "modCount", "I", false)
  | 1 => ("java/util/ArrayList", "elementData", "[Ljava/lang/Object;", false)
  | _ => ("java/util/ArrayList", "size", "I", false)
def tyJx4a65c : Nat → FieldType := fun k => match k with
  | 0 => .int
  | 1 => .array (.object "java/lang/Object")
  | _ => .int
abbrev wsJx4a65c0 : List Cond := u_ws RJx4a65c TJx4a65c 3
theorem nmJx4a65c : ∀ a, a < 3 → ∀ b, b < 3 → a ≠ b → (TJx4a65c a).2.1 ≠ (TJx4a65c b).2.1 := by decide +kernel
theorem tyJx4a65c_ok : ∀ k, k < 3 → parseFieldDescriptor (TJx4a65c k).2.2.1 = some (tyJx4a65c k) := by decide +kernel
abbrev cJx4a65c_init_da8c8 : ByteArray := prog_20_method_2_code
def yJx4a65c_init_da8c8 : MethodName := ⟨RJx4a65c, "<init>", "()V"⟩
abbrev cJx4a65c_grow_92f84 : ByteArray := prog_20_method_6_code
def yJx4a65c_grow_92f84 : MethodName := ⟨RJx4a65c, "grow", "(I)[Ljava/lang/Object;"⟩
abbrev cJx4a65c_grow_d5877 : ByteArray := prog_20_method_7_code
def yJx4a65c_grow_d5877 : MethodName := ⟨RJx4a65c, "grow", "()[Ljava/lang/Object;"⟩
abbrev cJx4a65c_size_8abf5 : ByteArray := prog_20_method_8_code
def yJx4a65c_size_8abf5 : MethodName := ⟨RJx4a65c, "size", "()I"⟩
abbrev cJx4a65c_elementData_915e3 : ByteArray := prog_20_method_18_code
def yJx4a65c_elementData_915e3 : MethodName := ⟨RJx4a65c, "elementData", "(I)Ljava/lang/Object;"⟩
abbrev cJx4a65c_get_915e3 : ByteArray := prog_20_method_20_code
def yJx4a65c_get_915e3 : MethodName := ⟨RJx4a65c, "get", "(I)Ljava/lang/Object;"⟩
abbrev cJx4a65c_add_72be8 : ByteArray := prog_20_method_24_code
def yJx4a65c_add_72be8 : MethodName := ⟨RJx4a65c, "add", "(Ljava/lang/Object;[Ljava/lang/Object;I)V"⟩
abbrev cJx4a65c_add_9ea2d : ByteArray := prog_20_method_25_code
def yJx4a65c_add_9ea2d : MethodName := ⟨RJx4a65c, "add", "(Ljava/lang/Object;)Z"⟩
abbrev cJx4a65c_remove_915e3 : ByteArray := prog_20_method_29_code
def yJx4a65c_remove_915e3 : MethodName := ⟨RJx4a65c, "remove", "(I)Ljava/lang/Object;"⟩
abbrev cJx4a65c_fastRemove_b59b0 : ByteArray := prog_20_method_39_code
def yJx4a65c_fastRemove_b59b0 : MethodName := ⟨RJx4a65c, "fastRemove", "([Ljava/lang/Object;I)V"⟩
def RJ7 : String := "java/util/Arrays"
def TJ7 : u_T := fun k => match k with
  | _ => ("", "", "", false)
def tyJ7 : Nat → FieldType := fun k => match k with
  | _ => .int
abbrev wsJ70 : List Cond := u_ws RJ7 TJ7 0
theorem nmJ7 : ∀ a, a < 0 → ∀ b, b < 0 → a ≠ b → (TJ7 a).2.1 ≠ (TJ7 b).2.1 := by decide +kernel
theorem tyJ7_ok : ∀ k, k < 0 → parseFieldDescriptor (TJ7 k).2.2.1 = some (tyJ7 k) := by decide +kernel
abbrev cJ7_fill_53178 : ByteArray := prog_21_method_103_code
def yJ7_fill_53178 : MethodName := ⟨RJ7, "fill", "([II)V"⟩
abbrev cJ7_copyOf_1904c : ByteArray := prog_21_method_119_code
def yJ7_copyOf_1904c : MethodName := ⟨RJ7, "copyOf", "([Ljava/lang/Object;I)[Ljava/lang/Object;"⟩
abbrev cJ7_copyOf_6403c : ByteArray := prog_21_method_120_code
def yJ7_copyOf_6403c : MethodName := ⟨RJ7, "copyOf", "([Ljava/lang/Object;ILjava/lang/Class;)[Ljava/lang/Object;"⟩
abbrev cJ7_copyOf_59c91 : ByteArray := prog_21_method_123_code
def yJ7_copyOf_59c91 : MethodName := ⟨RJ7, "copyOf", "([II)[I"⟩
def RJx5ef63 : String := "java/util/Collection"
def TJx5ef63 : u_T := fun k => match k with
  | _ => ("", "", "", false)
def tyJx5ef63 : Nat → FieldType := fun k => match k with
  | _ => .int
abbrev wsJx5ef630 : List Cond := u_ws RJx5ef63 TJx5ef63 0
theorem nmJx5ef63 : ∀ a, a < 0 → ∀ b, b < 0 → a ≠ b → (TJx5ef63 a).2.1 ≠ (TJx5ef63 b).2.1 := by decide +kernel
theorem tyJx5ef63_ok : ∀ k, k < 0 → parseFieldDescriptor (TJx5ef63 k).2.2.1 = some (tyJx5ef63 k) := by decide +kernel
def RJxbd725 : String := "java/util/List"
def TJxbd725 : u_T := fun k => match k with
  | _ => ("", "", "", false)
def tyJxbd725 : Nat → FieldType := fun k => match k with
  | _ => .int
abbrev wsJxbd7250 : List Cond := u_ws RJxbd725 TJxbd725 0
theorem nmJxbd725 : ∀ a, a < 0 → ∀ b, b < 0 → a ≠ b → (TJxbd725 a).2.1 ≠ (TJxbd725 b).2.1 := by decide +kernel
theorem tyJxbd725_ok : ∀ k, k < 0 → parseFieldDescriptor (TJxbd725 k).2.2.1 = some (tyJxbd725 k) := by decide +kernel
def RJ15 : String := "java/util/Objects"
def TJ15 : u_T := fun k => match k with
  | _ => ("", "", "", false)
def tyJ15 : Nat → FieldType := fun k => match k with
  | _ => .int
abbrev wsJ150 : List Cond := u_ws RJ15 TJ15 0
theorem nmJ15 : ∀ a, a < 0 → ∀ b, b < 0 → a ≠ b → (TJ15 a).2.1 ≠ (TJ15 b).2.1 := by decide +kernel
theorem tyJ15_ok : ∀ k, k < 0 → parseFieldDescriptor (TJ15 k).2.2.1 = some (tyJ15 k) := by decide +kernel
abbrev cJ15_checkIndex_7cf53 : ByteArray := prog_24_method_17_code
def yJ15_checkIndex_7cf53 : MethodName := ⟨RJ15, "checkIndex", "(II)I"⟩
def RJxf0a74 : String := "java/util/RandomAccess"
def TJxf0a74 : u_T := fun k => match k with
  | _ => ("", "", "", false)
def tyJxf0a74 : Nat → FieldType := fun k => match k with
  | _ => .int
abbrev wsJxf0a740 : List Cond := u_ws RJxf0a74 TJxf0a74 0
theorem nmJxf0a74 : ∀ a, a < 0 → ∀ b, b < 0 → a ≠ b → (TJxf0a74 a).2.1 ≠ (TJxf0a74 b).2.1 := by decide +kernel
theorem tyJxf0a74_ok : ∀ k, k < 0 → parseFieldDescriptor (TJxf0a74 k).2.2.1 = some (tyJxf0a74 k) := by decide +kernel
def RJxa66e6 : String := "java/util/SequencedCollection"
def TJxa66e6 : u_T := fun k => match k with
  | _ => ("", "", "", false)
def tyJxa66e6 : Nat → FieldType := fun k => match k with
  | _ => .int
abbrev wsJxa66e60 : List Cond := u_ws RJxa66e6 TJxa66e6 0
theorem nmJxa66e6 : ∀ a, a < 0 → ∀ b, b < 0 → a ≠ b → (TJxa66e6 a).2.1 ≠ (TJxa66e6 b).2.1 := by decide +kernel
theorem tyJxa66e6_ok : ∀ k, k < 0 → parseFieldDescriptor (TJxa66e6 k).2.2.1 = some (tyJxa66e6 k) := by decide +kernel
def RJ8 : String := "jdk/internal/util/ArraysSupport"
def TJ8 : u_T := fun k => match k with
  | _ => ("", "", "", false)
def tyJ8 : Nat → FieldType := fun k => match k with
  | _ => .int
abbrev wsJ80 : List Cond := u_ws RJ8 TJ8 0
theorem nmJ8 : ∀ a, a < 0 → ∀ b, b < 0 → a ≠ b → (TJ8 a).2.1 ≠ (TJ8 b).2.1 := by decide +kernel
theorem tyJ8_ok : ∀ k, k < 0 → parseFieldDescriptor (TJ8 k).2.2.1 = some (tyJ8 k) := by decide +kernel
abbrev cJ8_newLength_cabcc : ByteArray := prog_27_method_27_code
def yJ8_newLength_cabcc : MethodName := ⟨RJ8, "newLength", "(III)I"⟩
abbrev cJ8_hugeLength_7cf53 : ByteArray := prog_27_method_28_code
def yJ8_hugeLength_7cf53 : MethodName := ⟨RJ8, "hugeLength", "(II)I"⟩
def RJ3 : String := "jdk/internal/util/Preconditions"
def TJ3 : u_T := fun k => match k with
  | _ => ("", "", "", false)
def tyJ3 : Nat → FieldType := fun k => match k with
  | _ => .int
abbrev wsJ30 : List Cond := u_ws RJ3 TJ3 0
theorem nmJ3 : ∀ a, a < 0 → ∀ b, b < 0 → a ≠ b → (TJ3 a).2.1 ≠ (TJ3 b).2.1 := by decide +kernel
theorem tyJ3_ok : ∀ k, k < 0 → parseFieldDescriptor (TJ3 k).2.2.1 = some (tyJ3 k) := by decide +kernel
abbrev cJ3_checkIndex_8e157 : ByteArray := prog_28_method_11_code
def yJ3_checkIndex_8e157 : MethodName := ⟨RJ3, "checkIndex", "(IILjava/util/function/BiFunction;)I"⟩
def RL : String := "DeltaUpdaterLaw"
abbrev cL_feed : ByteArray := method_3_code
def yL_feed : MethodName := ⟨RL, "feed", "(LDeltaUpdater;JI[J)I"⟩
abbrev cL_store : ByteArray := method_4_code
def yL_store : MethodName := ⟨RL, "store", "(LDeltaUpdater;[J)I"⟩
abbrev cL_length : ByteArray := method_5_code
def yL_length : MethodName := ⟨RL, "length", "(LDeltaUpdater;I[J)I"⟩
abbrev cL_byteAt : ByteArray := method_6_code
def yL_byteAt : MethodName := ⟨RL, "byteAt", "(LDeltaUpdater;II[J)I"⟩
abbrev cL_areSame : ByteArray := method_7_code
def yL_areSame : MethodName := ⟨RL, "areSame", "(LDeltaUpdater;II[J)I"⟩
abbrev cL_weakSum : ByteArray := method_8_code
def yL_weakSum : MethodName := ⟨RL, "weakSum", "(LDeltaUpdater;III[J)I"⟩
abbrev cL_collisions : ByteArray := method_9_code
def yL_collisions : MethodName := ⟨RL, "collisions", "(LDeltaUpdater;II[J)I"⟩
abbrev cL_differentBlocks : ByteArray := method_10_code
def yL_differentBlocks : MethodName := ⟨RL, "differentBlocks", "(LDeltaUpdater;II[J)I"⟩
abbrev cL_difference : ByteArray := method_11_code
def yL_difference : MethodName := ⟨RL, "difference", "(LDeltaUpdater;III[J)I"⟩
abbrev cL_compose : ByteArray := method_12_code
def yL_compose : MethodName := ⟨RL, "compose", "(LDeltaUpdater;II[J)I"⟩
abbrev cL_instructions : ByteArray := method_13_code
def yL_instructions : MethodName := ⟨RL, "instructions", "(LDeltaUpdater;I[J)I"⟩
abbrev cL_instruction : ByteArray := method_14_code
def yL_instruction : MethodName := ⟨RL, "instruction", "(LDeltaUpdater;III[J)I"⟩
abbrev cL_cost : ByteArray := method_15_code
def yL_cost : MethodName := ⟨RL, "cost", "(LDeltaUpdater;I[J)I"⟩
abbrev cL_newness : ByteArray := method_16_code
def yL_newness : MethodName := ⟨RL, "newness", "(LDeltaUpdater;I[D)I"⟩
abbrev cL_apply : ByteArray := method_17_code
def yL_apply : MethodName := ⟨RL, "apply", "(LDeltaUpdater;II[J)I"⟩
abbrev cL_steps : ByteArray := method_18_code
def yL_steps : MethodName := ⟨RL, "steps", "(LDeltaUpdater;II[J)I"⟩
abbrev cL_leastCost : ByteArray := method_19_code
def yL_leastCost : MethodName := ⟨RL, "leastCost", "(LDeltaUpdater;II[J)I"⟩
abbrev cL_installVersion : ByteArray := method_20_code
def yL_installVersion : MethodName := ⟨RL, "installVersion", "(LDeltaUpdater;I[J)I"⟩
abbrev cL_installPatch : ByteArray := method_21_code
def yL_installPatch : MethodName := ⟨RL, "installPatch", "(LDeltaUpdater;I[J)I"⟩
abbrev cL_rollBack : ByteArray := method_22_code
def yL_rollBack : MethodName := ⟨RL, "rollBack", "(LDeltaUpdater;[J)I"⟩
abbrev cL_isInstalled : ByteArray := method_23_code
def yL_isInstalled : MethodName := ⟨RL, "isInstalled", "(LDeltaUpdater;I[J)I"⟩
abbrev cL_law : ByteArray := code
def yL_law : MethodName := ⟨RL, "law", "([I)Z"⟩
def wsX0_startsAt : List Cond := .code yX0_startsAt cX0_startsAt 3 (some .boolean) :: ([])
def wsJ7_copyOf_59c91 : List Cond := .code yJ7_copyOf_59c91 cJ7_copyOf_59c91 3 (some (.array .int)) :: ([.methodLink RJ7 316 ⟨"[I", "clone", "()Ljava/lang/Object;"⟩, .sameMethod "[I" "java/lang/Object" "clone" "()Ljava/lang/Object;", .native ⟨"java/lang/Object", "clone", "()Ljava/lang/Object;"⟩, .instanceMethod ⟨"java/lang/Object", "clone", "()Ljava/lang/Object;"⟩, .selects "[I" ⟨"[I", "clone", "()Ljava/lang/Object;"⟩ ⟨"java/lang/Object", "clone", "()Ljava/lang/Object;"⟩, .classLink RJ7 317 "[I", .arrayClass .int, .methodLink RJ7 304 Lib.Math.min.name, .static Lib.Math.min.name, .initialized "java/lang/Math", .code Lib.Math.min.name Lib.Math.min.code 2 (some .int), .methodLink RJ7 150 arraycopyName, .native arraycopyName, .static arraycopyName, .initialized "java/lang/System"])
def wsX0_startsIn : List Cond := .code yX0_startsIn cX0_startsIn 4 (some (.array .int)) :: ([.arrayClass .int, .methodLink RX0 47 yX0_startsAt, .static yX0_startsAt, .initialized RX0, .code yX0_startsAt cX0_startsAt 3 (some .boolean), .methodLink RX0 51 yJ7_copyOf_59c91, .static yJ7_copyOf_59c91, .initialized RJ7, .code yJ7_copyOf_59c91 cJ7_copyOf_59c91 3 (some (.array .int)), .methodLink RJ7 316 ⟨"[I", "clone", "()Ljava/lang/Object;"⟩, .sameMethod "[I" "java/lang/Object" "clone" "()Ljava/lang/Object;", .native ⟨"java/lang/Object", "clone", "()Ljava/lang/Object;"⟩, .instanceMethod ⟨"java/lang/Object", "clone", "()Ljava/lang/Object;"⟩, .selects "[I" ⟨"[I", "clone", "()Ljava/lang/Object;"⟩ ⟨"java/lang/Object", "clone", "()Ljava/lang/Object;"⟩, .classLink RJ7 317 "[I", .methodLink RJ7 304 Lib.Math.min.name, .static Lib.Math.min.name, .initialized "java/lang/Math", .code Lib.Math.min.name Lib.Math.min.code 2 (some .int), .methodLink RJ7 150 arraycopyName, .native arraycopyName, .static arraycopyName, .initialized "java/lang/System"])
def wsX0_literalsIn : List Cond := .code yX0_literalsIn cX0_literalsIn 3 (some .int) :: ([])
def wsX0_priceOf : List Cond := .code yX0_priceOf cX0_priceOf 5 (some .int) :: ([])
def wsX0_init_r1 : List Cond := [Cond.methodLink RX0 3 objectInit, Cond.instanceMethod objectInit, Cond.code objectInit ⟨#[0xb1]⟩ 1 none, Cond.fieldLink RX0 9 "DeltaUpdater$Patch" "base" "I", Cond.fieldLink RX0 15 "DeltaUpdater$Patch" "goal" "I", Cond.fieldLink RX0 18 "DeltaUpdater$Patch" "goalRow" "LDeltaUpdater$Row;", Cond.fieldLink RX0 22 "DeltaUpdater$Patch" "origins" "[I", Cond.fieldLink RX0 30 "DeltaUpdater$Patch" "starts" "[I", Cond.fieldLink RX0 37 "DeltaUpdater$Patch" "literalBytes" "I", Cond.fieldLink RX0 44 "DeltaUpdater$Patch" "price" "I", Cond.methodLink RX0 26 yX0_startsIn, Cond.static yX0_startsIn, Cond.initialized RX0, Cond.code yX0_startsIn cX0_startsIn 4 (some (.array .int)), Cond.arrayClass .int, Cond.methodLink RX0 47 yX0_startsAt, Cond.static yX0_startsAt, Cond.code yX0_startsAt cX0_startsAt 3 (some .boolean), Cond.methodLink RX0 51 yJ7_copyOf_59c91, Cond.static yJ7_copyOf_59c91, Cond.initialized RJ7, Cond.code yJ7_copyOf_59c91 cJ7_copyOf_59c91 3 (some (.array .int)), Cond.methodLink RJ7 316 ⟨"[I", "clone", "()Ljava/lang/Object;"⟩, Cond.sameMethod "[I" "java/lang/Object" "clone" "()Ljava/lang/Object;"]
def wsX0_init_r2 : List Cond := [Cond.native ⟨"java/lang/Object", "clone", "()Ljava/lang/Object;"⟩, Cond.instanceMethod ⟨"java/lang/Object", "clone", "()Ljava/lang/Object;"⟩, Cond.selects "[I" ⟨"[I", "clone", "()Ljava/lang/Object;"⟩ ⟨"java/lang/Object", "clone", "()Ljava/lang/Object;"⟩, Cond.classLink RJ7 317 "[I", Cond.methodLink RJ7 304 Lib.Math.min.name, Cond.static Lib.Math.min.name, Cond.initialized "java/lang/Math", Cond.code Lib.Math.min.name Lib.Math.min.code 2 (some .int), Cond.methodLink RJ7 150 arraycopyName, Cond.native arraycopyName, Cond.static arraycopyName, Cond.initialized "java/lang/System", Cond.methodLink RX0 33 yX0_literalsIn, Cond.static yX0_literalsIn, Cond.code yX0_literalsIn cX0_literalsIn 3 (some .int), Cond.methodLink RX0 40 yX0_priceOf, Cond.static yX0_priceOf, Cond.code yX0_priceOf cX0_priceOf 5 (some .int)]
def wsX0_init : List Cond := .code yX0_init cX0_init 5 none :: ((wsX0_init_r1 ++ wsX0_init_r2) ++ wsX00)
def wsX1_sumOf : List Cond := .code yX1_sumOf cX1_sumOf 6 (some .int) :: ([.fieldLink RX1 13 "DeltaUpdater$Row" "bytes" "[I"] ++ wsX10)
def wsX0_tell : List Cond := .code yX0_tell cX0_tell 6 (some .int) :: ([.fieldLink RX0 30 "DeltaUpdater$Patch" "starts" "[I", .fieldLink RX0 22 "DeltaUpdater$Patch" "origins" "[I", .fieldLink RX0 18 "DeltaUpdater$Patch" "goalRow" "LDeltaUpdater$Row;", .methodLink RX0 57 yX1_sumOf, .instanceMethod yX1_sumOf, .selects RX1 yX1_sumOf yX1_sumOf, .initialized RX1, .code yX1_sumOf cX1_sumOf 6 (some .int), .fieldLink RX1 13 "DeltaUpdater$Row" "bytes" "[I"] ++ wsX00 ++ wsX10)
def wsX1_init : List Cond := .code yX1_init cX1_init 3 none :: ([.methodLink RX1 1 objectInit, .instanceMethod objectInit, .code objectInit ⟨#[0xb1]⟩ 1 none, .fieldLink RX1 13 "DeltaUpdater$Row" "bytes" "[I", .methodLink RX1 7 yJ7_copyOf_59c91, .static yJ7_copyOf_59c91, .initialized RJ7, .code yJ7_copyOf_59c91 cJ7_copyOf_59c91 3 (some (.array .int)), .methodLink RJ7 316 ⟨"[I", "clone", "()Ljava/lang/Object;"⟩, .sameMethod "[I" "java/lang/Object" "clone" "()Ljava/lang/Object;", .native ⟨"java/lang/Object", "clone", "()Ljava/lang/Object;"⟩, .instanceMethod ⟨"java/lang/Object", "clone", "()Ljava/lang/Object;"⟩, .selects "[I" ⟨"[I", "clone", "()Ljava/lang/Object;"⟩ ⟨"java/lang/Object", "clone", "()Ljava/lang/Object;"⟩, .classLink RJ7 317 "[I", .arrayClass .int, .methodLink RJ7 304 Lib.Math.min.name, .static Lib.Math.min.name, .initialized "java/lang/Math", .code Lib.Math.min.name Lib.Math.min.code 2 (some .int), .methodLink RJ7 150 arraycopyName, .native arraycopyName, .static arraycopyName, .initialized "java/lang/System"] ++ wsX10)
def wsX1_hasStretch : List Cond := .code yX1_hasStretch cX1_hasStretch 6 (some .boolean) :: ([.fieldLink RX1 13 "DeltaUpdater$Row" "bytes" "[I"] ++ wsX10)
def wsX1_hasBytesOf : List Cond := .code yX1_hasBytesOf cX1_hasBytesOf 2 (some .boolean) :: ([.fieldLink RX1 13 "DeltaUpdater$Row" "bytes" "[I", .methodLink RX1 19 yX1_hasStretch, .instanceMethod yX1_hasStretch, .selects RX1 yX1_hasStretch yX1_hasStretch, .initialized RX1, .code yX1_hasStretch cX1_hasStretch 6 (some .boolean)] ++ wsX10)
def wsJxa1e45_init_da8c8 : List Cond := .code yJxa1e45_init_da8c8 cJxa1e45_init_da8c8 1 none :: ([.methodLink RJxa1e45 1 objectInit, .instanceMethod objectInit, .code objectInit ⟨#[0xb1]⟩ 1 none])
def wsJxc12de_init_da8c8 : List Cond := .code yJxc12de_init_da8c8 cJxc12de_init_da8c8 1 none :: ([.fieldLink RJxc12de 7 "java/util/AbstractList" "modCount" "I", .methodLink RJxc12de 1 yJxa1e45_init_da8c8, .instanceMethod yJxa1e45_init_da8c8, .initialized RJxa1e45, .code yJxa1e45_init_da8c8 cJxa1e45_init_da8c8 1 none, .methodLink RJxa1e45 1 objectInit, .instanceMethod objectInit, .code objectInit ⟨#[0xb1]⟩ 1 none] ++ wsJx4a65c0)
def wsJx4a65c_init_da8c8 : List Cond := .code yJx4a65c_init_da8c8 cJx4a65c_init_da8c8 1 none :: ([.fieldLink RJx4a65c 39 "java/util/ArrayList" "DEFAULTCAPACITY_EMPTY_ELEMENTDATA" "[Ljava/lang/Object;", .fieldLink RJx4a65c 9 "java/util/ArrayList" "elementData" "[Ljava/lang/Object;", .methodLink RJx4a65c 1 yJxc12de_init_da8c8, .instanceMethod yJxc12de_init_da8c8, .initialized RJxc12de, .code yJxc12de_init_da8c8 cJxc12de_init_da8c8 1 none, .fieldLink RJxc12de 7 "java/util/AbstractList" "modCount" "I", .methodLink RJxc12de 1 yJxa1e45_init_da8c8, .instanceMethod yJxa1e45_init_da8c8, .initialized RJxa1e45, .code yJxa1e45_init_da8c8 cJxa1e45_init_da8c8 1 none, .methodLink RJxa1e45 1 objectInit, .instanceMethod objectInit, .code objectInit ⟨#[0xb1]⟩ 1 none] ++ wsJx4a65c0)
def wsX2_init_r1 : List Cond := [Cond.methodLink RX2 1 objectInit, Cond.instanceMethod objectInit, Cond.code objectInit ⟨#[0xb1]⟩ 1 none, Cond.arrayClass .int, Cond.fieldLink RX2 9 "DeltaUpdater" "buffer" "[I", Cond.fieldLink RX2 13 "DeltaUpdater" "buffered" "I", Cond.classLink RX2 17 RJx4a65c, Cond.instantiable RJx4a65c 3, Cond.initialized RJx4a65c, Cond.fieldLink RX2 20 "DeltaUpdater" "stored" "Ljava/util/ArrayList;", Cond.fieldLink RX2 24 "DeltaUpdater" "made" "Ljava/util/ArrayList;", Cond.classLink RX2 27 RX1, Cond.instantiable RX1 1, Cond.initialized RX1, Cond.fieldLink RX2 32 "DeltaUpdater" "installed" "LDeltaUpdater$Row;", Cond.fieldLink RX2 36 "DeltaUpdater" "history" "Ljava/util/ArrayList;", Cond.fieldLink RX2 39 "DeltaUpdater" "blockSums" "[I", Cond.fieldLink RX2 42 "DeltaUpdater" "reached" "[I", Cond.methodLink RX2 19 yJx4a65c_init_da8c8, Cond.instanceMethod yJx4a65c_init_da8c8, Cond.code yJx4a65c_init_da8c8 cJx4a65c_init_da8c8 1 none, Cond.fieldLink RJx4a65c 39 "java/util/ArrayList" "DEFAULTCAPACITY_EMPTY_ELEMENTDATA" "[Ljava/lang/Object;", Cond.fieldLink RJx4a65c 9 "java/util/ArrayList" "elementData" "[Ljava/lang/Object;", Cond.methodLink RJx4a65c 1 yJxc12de_init_da8c8]
def wsX2_init_r2 : List Cond := [Cond.instanceMethod yJxc12de_init_da8c8, Cond.initialized RJxc12de, Cond.code yJxc12de_init_da8c8 cJxc12de_init_da8c8 1 none, Cond.fieldLink RJxc12de 7 "java/util/AbstractList" "modCount" "I", Cond.methodLink RJxc12de 1 yJxa1e45_init_da8c8, Cond.instanceMethod yJxa1e45_init_da8c8, Cond.initialized RJxa1e45, Cond.code yJxa1e45_init_da8c8 cJxa1e45_init_da8c8 1 none, Cond.methodLink RJxa1e45 1 objectInit, Cond.methodLink RX2 29 yX1_init, Cond.instanceMethod yX1_init, Cond.code yX1_init cX1_init 3 none, Cond.methodLink RX1 1 objectInit, Cond.fieldLink RX1 13 "DeltaUpdater$Row" "bytes" "[I", Cond.methodLink RX1 7 yJ7_copyOf_59c91, Cond.static yJ7_copyOf_59c91, Cond.initialized RJ7, Cond.code yJ7_copyOf_59c91 cJ7_copyOf_59c91 3 (some (.array .int)), Cond.methodLink RJ7 316 ⟨"[I", "clone", "()Ljava/lang/Object;"⟩, Cond.sameMethod "[I" "java/lang/Object" "clone" "()Ljava/lang/Object;", Cond.native ⟨"java/lang/Object", "clone", "()Ljava/lang/Object;"⟩, Cond.instanceMethod ⟨"java/lang/Object", "clone", "()Ljava/lang/Object;"⟩, Cond.selects "[I" ⟨"[I", "clone", "()Ljava/lang/Object;"⟩ ⟨"java/lang/Object", "clone", "()Ljava/lang/Object;"⟩, Cond.classLink RJ7 317 "[I"]
def wsX2_init_r3 : List Cond := [Cond.methodLink RJ7 304 Lib.Math.min.name, Cond.static Lib.Math.min.name, Cond.initialized "java/lang/Math", Cond.code Lib.Math.min.name Lib.Math.min.code 2 (some .int), Cond.methodLink RJ7 150 arraycopyName, Cond.native arraycopyName, Cond.static arraycopyName, Cond.initialized "java/lang/System"]
def wsX2_init : List Cond := .code yX2_init cX2_init 1 none :: ((wsX2_init_r1 ++ (wsX2_init_r2 ++ wsX2_init_r3)) ++ wsX20 ++ wsJx4a65c0 ++ wsX10)
def wsX2_feed : List Cond := .code yX2_feed cX2_feed 5 (some .int) :: ([.classLink RX2 45 "java/lang/IllegalArgumentException", .initialized "java/lang/IllegalArgumentException", .classLink RX2 52 "java/lang/IllegalStateException", .initialized "java/lang/IllegalStateException", .fieldLink RX2 13 "DeltaUpdater" "buffered" "I", .fieldLink RX2 9 "DeltaUpdater" "buffer" "[I"] ++ wsX20 ++ (vx_atS RX2 49 "java/lang/IllegalArgumentException" ["java/lang/RuntimeException", "java/lang/Exception"]).filter goodWord ++ (vx_atS RX2 56 "java/lang/IllegalStateException" ["java/lang/RuntimeException", "java/lang/Exception"]).filter goodWord)
def wsJx4a65c_size_8abf5 : List Cond := .code yJx4a65c_size_8abf5 cJx4a65c_size_8abf5 1 (some .int) :: ([.fieldLink RJx4a65c 48 "java/util/ArrayList" "size" "I"] ++ wsJx4a65c0)
def wsX2_checkRoomForVersion : List Cond := .code yX2_checkRoomForVersion cX2_checkRoomForVersion 1 none :: ([.classLink RX2 52 "java/lang/IllegalStateException", .initialized "java/lang/IllegalStateException", .fieldLink RX2 20 "DeltaUpdater" "stored" "Ljava/util/ArrayList;", .methodLink RX2 64 yJx4a65c_size_8abf5, .instanceMethod yJx4a65c_size_8abf5, .selects RJx4a65c yJx4a65c_size_8abf5 yJx4a65c_size_8abf5, .initialized RJx4a65c, .code yJx4a65c_size_8abf5 cJx4a65c_size_8abf5 1 (some .int), .fieldLink RJx4a65c 48 "java/util/ArrayList" "size" "I"] ++ wsX20 ++ wsJx4a65c0 ++ (vx_atS RX2 56 "java/lang/IllegalStateException" ["java/lang/RuntimeException", "java/lang/Exception"]).filter goodWord)
def wsJ8_hugeLength_7cf53 : List Cond := .code yJ8_hugeLength_7cf53 cJ8_hugeLength_7cf53 3 (some .int) :: ([.constant RJ8 200 (2147483639)])
def wsJ8_newLength_cabcc : List Cond := .code yJ8_newLength_cabcc cJ8_newLength_cabcc 4 (some .int) :: ([.methodLink RJ8 194 Lib.Math.max.name, .static Lib.Math.max.name, .initialized "java/lang/Math", .code Lib.Math.max.name Lib.Math.max.code 2 (some .int), .constant RJ8 200 (2147483639), .methodLink RJ8 201 yJ8_hugeLength_7cf53, .static yJ8_hugeLength_7cf53, .initialized RJ8, .code yJ8_hugeLength_7cf53 cJ8_hugeLength_7cf53 3 (some .int)])
def wsJ7_copyOf_6403c : List Cond := .code yJ7_copyOf_6403c cJ7_copyOf_6403c 4 (some (.array (.object "java/lang/Object"))) :: ([.classLink RJ7 110 "[Ljava/lang/Object;", .classLink RJ7 2 "java/lang/Object", .methodLink RJ7 304 Lib.Math.min.name, .static Lib.Math.min.name, .initialized "java/lang/Math", .code Lib.Math.min.name Lib.Math.min.code 2 (some .int), .methodLink RJ7 150 arraycopyName, .native arraycopyName, .static arraycopyName, .initialized "java/lang/System"])
def wsJ7_copyOf_1904c : List Cond := .code yJ7_copyOf_1904c cJ7_copyOf_1904c 2 (some (.array (.object "java/lang/Object"))) :: ([.methodLink RJ7 86 ⟨"java/lang/Object", "getClass", "()Ljava/lang/Class;"⟩, .selects "[Ljava/lang/Object;" ⟨"java/lang/Object", "getClass", "()Ljava/lang/Class;"⟩ ⟨"java/lang/Object", "getClass", "()Ljava/lang/Class;"⟩, .instanceMethod ⟨"java/lang/Object", "getClass", "()Ljava/lang/Class;"⟩, .native ⟨"java/lang/Object", "getClass", "()Ljava/lang/Class;"⟩, .methodLink RJ7 300 yJ7_copyOf_6403c, .static yJ7_copyOf_6403c, .initialized RJ7, .code yJ7_copyOf_6403c cJ7_copyOf_6403c 4 (some (.array (.object "java/lang/Object"))), .classLink RJ7 110 "[Ljava/lang/Object;", .classLink RJ7 2 "java/lang/Object", .methodLink RJ7 304 Lib.Math.min.name, .static Lib.Math.min.name, .initialized "java/lang/Math", .code Lib.Math.min.name Lib.Math.min.code 2 (some .int), .methodLink RJ7 150 arraycopyName, .native arraycopyName, .static arraycopyName, .initialized "java/lang/System"])
def wsJx4a65c_grow_92f84_r1 : List Cond := [Cond.fieldLink RJx4a65c 9 "java/util/ArrayList" "elementData" "[Ljava/lang/Object;", Cond.fieldLink RJx4a65c 39 "java/util/ArrayList" "DEFAULTCAPACITY_EMPTY_ELEMENTDATA" "[Ljava/lang/Object;", Cond.methodLink RJx4a65c 79 Lib.Math.max.name, Cond.static Lib.Math.max.name, Cond.initialized "java/lang/Math", Cond.code Lib.Math.max.name Lib.Math.max.code 2 (some .int), Cond.classLink RJx4a65c 7 "java/lang/Object", Cond.methodLink RJx4a65c 73 yJ8_newLength_cabcc, Cond.static yJ8_newLength_cabcc, Cond.initialized RJ8, Cond.code yJ8_newLength_cabcc cJ8_newLength_cabcc 4 (some .int), Cond.methodLink RJ8 194 Lib.Math.max.name, Cond.constant RJ8 200 (2147483639), Cond.methodLink RJ8 201 yJ8_hugeLength_7cf53, Cond.static yJ8_hugeLength_7cf53, Cond.code yJ8_hugeLength_7cf53 cJ8_hugeLength_7cf53 3 (some .int), Cond.methodLink RJx4a65c 66 yJ7_copyOf_1904c, Cond.static yJ7_copyOf_1904c, Cond.initialized RJ7, Cond.code yJ7_copyOf_1904c cJ7_copyOf_1904c 2 (some (.array (.object "java/lang/Object"))), Cond.methodLink RJ7 86 ⟨"java/lang/Object", "getClass", "()Ljava/lang/Class;"⟩, Cond.selects "[Ljava/lang/Object;" ⟨"java/lang/Object", "getClass", "()Ljava/lang/Class;"⟩ ⟨"java/lang/Object", "getClass", "()Ljava/lang/Class;"⟩, Cond.instanceMethod ⟨"java/lang/Object", "getClass", "()Ljava/lang/Class;"⟩, Cond.native ⟨"java/lang/Object", "getClass", "()Ljava/lang/Class;"⟩]
def wsJx4a65c_grow_92f84_r2 : List Cond := [Cond.methodLink RJ7 300 yJ7_copyOf_6403c, Cond.static yJ7_copyOf_6403c, Cond.code yJ7_copyOf_6403c cJ7_copyOf_6403c 4 (some (.array (.object "java/lang/Object"))), Cond.classLink RJ7 110 "[Ljava/lang/Object;", Cond.classLink RJ7 2 "java/lang/Object", Cond.methodLink RJ7 304 Lib.Math.min.name, Cond.static Lib.Math.min.name, Cond.code Lib.Math.min.name Lib.Math.min.code 2 (some .int), Cond.methodLink RJ7 150 arraycopyName, Cond.native arraycopyName, Cond.static arraycopyName, Cond.initialized "java/lang/System"]
def wsJx4a65c_grow_92f84 : List Cond := .code yJx4a65c_grow_92f84 cJx4a65c_grow_92f84 4 (some (.array (.object "java/lang/Object"))) :: ((wsJx4a65c_grow_92f84_r1 ++ wsJx4a65c_grow_92f84_r2) ++ wsJx4a65c0)
def wsJx4a65c_grow_d5877_r1 : List Cond := [Cond.fieldLink RJx4a65c 48 "java/util/ArrayList" "size" "I", Cond.methodLink RJx4a65c 69 yJx4a65c_grow_92f84, Cond.instanceMethod yJx4a65c_grow_92f84, Cond.selects RJx4a65c yJx4a65c_grow_92f84 yJx4a65c_grow_92f84, Cond.initialized RJx4a65c, Cond.code yJx4a65c_grow_92f84 cJx4a65c_grow_92f84 4 (some (.array (.object "java/lang/Object"))), Cond.fieldLink RJx4a65c 9 "java/util/ArrayList" "elementData" "[Ljava/lang/Object;", Cond.fieldLink RJx4a65c 39 "java/util/ArrayList" "DEFAULTCAPACITY_EMPTY_ELEMENTDATA" "[Ljava/lang/Object;", Cond.methodLink RJx4a65c 79 Lib.Math.max.name, Cond.static Lib.Math.max.name, Cond.initialized "java/lang/Math", Cond.code Lib.Math.max.name Lib.Math.max.code 2 (some .int), Cond.classLink RJx4a65c 7 "java/lang/Object", Cond.methodLink RJx4a65c 73 yJ8_newLength_cabcc, Cond.static yJ8_newLength_cabcc, Cond.initialized RJ8, Cond.code yJ8_newLength_cabcc cJ8_newLength_cabcc 4 (some .int), Cond.methodLink RJ8 194 Lib.Math.max.name, Cond.constant RJ8 200 (2147483639), Cond.methodLink RJ8 201 yJ8_hugeLength_7cf53, Cond.static yJ8_hugeLength_7cf53, Cond.code yJ8_hugeLength_7cf53 cJ8_hugeLength_7cf53 3 (some .int), Cond.methodLink RJx4a65c 66 yJ7_copyOf_1904c, Cond.static yJ7_copyOf_1904c]
def wsJx4a65c_grow_d5877_r2 : List Cond := [Cond.initialized RJ7, Cond.code yJ7_copyOf_1904c cJ7_copyOf_1904c 2 (some (.array (.object "java/lang/Object"))), Cond.methodLink RJ7 86 ⟨"java/lang/Object", "getClass", "()Ljava/lang/Class;"⟩, Cond.selects "[Ljava/lang/Object;" ⟨"java/lang/Object", "getClass", "()Ljava/lang/Class;"⟩ ⟨"java/lang/Object", "getClass", "()Ljava/lang/Class;"⟩, Cond.instanceMethod ⟨"java/lang/Object", "getClass", "()Ljava/lang/Class;"⟩, Cond.native ⟨"java/lang/Object", "getClass", "()Ljava/lang/Class;"⟩, Cond.methodLink RJ7 300 yJ7_copyOf_6403c, Cond.static yJ7_copyOf_6403c, Cond.code yJ7_copyOf_6403c cJ7_copyOf_6403c 4 (some (.array (.object "java/lang/Object"))), Cond.classLink RJ7 110 "[Ljava/lang/Object;", Cond.classLink RJ7 2 "java/lang/Object", Cond.methodLink RJ7 304 Lib.Math.min.name, Cond.static Lib.Math.min.name, Cond.code Lib.Math.min.name Lib.Math.min.code 2 (some .int), Cond.methodLink RJ7 150 arraycopyName, Cond.native arraycopyName, Cond.static arraycopyName, Cond.initialized "java/lang/System"]
def wsJx4a65c_grow_d5877 : List Cond := .code yJx4a65c_grow_d5877 cJx4a65c_grow_d5877 1 (some (.array (.object "java/lang/Object"))) :: ((wsJx4a65c_grow_d5877_r1 ++ wsJx4a65c_grow_d5877_r2) ++ wsJx4a65c0)
def wsJx4a65c_add_72be8_r1 : List Cond := [Cond.fieldLink RJx4a65c 48 "java/util/ArrayList" "size" "I", Cond.methodLink RJx4a65c 129 yJx4a65c_grow_d5877, Cond.instanceMethod yJx4a65c_grow_d5877, Cond.selects RJx4a65c yJx4a65c_grow_d5877 yJx4a65c_grow_d5877, Cond.initialized RJx4a65c, Cond.code yJx4a65c_grow_d5877 cJx4a65c_grow_d5877 1 (some (.array (.object "java/lang/Object"))), Cond.methodLink RJx4a65c 69 yJx4a65c_grow_92f84, Cond.instanceMethod yJx4a65c_grow_92f84, Cond.selects RJx4a65c yJx4a65c_grow_92f84 yJx4a65c_grow_92f84, Cond.code yJx4a65c_grow_92f84 cJx4a65c_grow_92f84 4 (some (.array (.object "java/lang/Object"))), Cond.fieldLink RJx4a65c 9 "java/util/ArrayList" "elementData" "[Ljava/lang/Object;", Cond.fieldLink RJx4a65c 39 "java/util/ArrayList" "DEFAULTCAPACITY_EMPTY_ELEMENTDATA" "[Ljava/lang/Object;", Cond.methodLink RJx4a65c 79 Lib.Math.max.name, Cond.static Lib.Math.max.name, Cond.initialized "java/lang/Math", Cond.code Lib.Math.max.name Lib.Math.max.code 2 (some .int), Cond.classLink RJx4a65c 7 "java/lang/Object", Cond.methodLink RJx4a65c 73 yJ8_newLength_cabcc, Cond.static yJ8_newLength_cabcc, Cond.initialized RJ8, Cond.code yJ8_newLength_cabcc cJ8_newLength_cabcc 4 (some .int), Cond.methodLink RJ8 194 Lib.Math.max.name, Cond.constant RJ8 200 (2147483639), Cond.methodLink RJ8 201 yJ8_hugeLength_7cf53]
def wsJx4a65c_add_72be8_r2 : List Cond := [Cond.static yJ8_hugeLength_7cf53, Cond.code yJ8_hugeLength_7cf53 cJ8_hugeLength_7cf53 3 (some .int), Cond.methodLink RJx4a65c 66 yJ7_copyOf_1904c, Cond.static yJ7_copyOf_1904c, Cond.initialized RJ7, Cond.code yJ7_copyOf_1904c cJ7_copyOf_1904c 2 (some (.array (.object "java/lang/Object"))), Cond.methodLink RJ7 86 ⟨"java/lang/Object", "getClass", "()Ljava/lang/Class;"⟩, Cond.selects "[Ljava/lang/Object;" ⟨"java/lang/Object", "getClass", "()Ljava/lang/Class;"⟩ ⟨"java/lang/Object", "getClass", "()Ljava/lang/Class;"⟩, Cond.instanceMethod ⟨"java/lang/Object", "getClass", "()Ljava/lang/Class;"⟩, Cond.native ⟨"java/lang/Object", "getClass", "()Ljava/lang/Class;"⟩, Cond.methodLink RJ7 300 yJ7_copyOf_6403c, Cond.static yJ7_copyOf_6403c, Cond.code yJ7_copyOf_6403c cJ7_copyOf_6403c 4 (some (.array (.object "java/lang/Object"))), Cond.classLink RJ7 110 "[Ljava/lang/Object;", Cond.classLink RJ7 2 "java/lang/Object", Cond.methodLink RJ7 304 Lib.Math.min.name, Cond.static Lib.Math.min.name, Cond.code Lib.Math.min.name Lib.Math.min.code 2 (some .int), Cond.methodLink RJ7 150 arraycopyName, Cond.native arraycopyName, Cond.static arraycopyName, Cond.initialized "java/lang/System"]
def wsJx4a65c_add_72be8 : List Cond := .code yJx4a65c_add_72be8 cJx4a65c_add_72be8 4 none :: ((wsJx4a65c_add_72be8_r1 ++ wsJx4a65c_add_72be8_r2) ++ wsJx4a65c0)
def wsJx4a65c_add_9ea2d_r1 : List Cond := [Cond.fieldLink RJx4a65c 63 "java/util/ArrayList" "modCount" "I", Cond.sameField "java/util/ArrayList" "java/util/AbstractList" "modCount" "I", Cond.fieldLink RJx4a65c 9 "java/util/ArrayList" "elementData" "[Ljava/lang/Object;", Cond.fieldLink RJx4a65c 48 "java/util/ArrayList" "size" "I", Cond.methodLink RJx4a65c 131 yJx4a65c_add_72be8, Cond.instanceMethod yJx4a65c_add_72be8, Cond.selects RJx4a65c yJx4a65c_add_72be8 yJx4a65c_add_72be8, Cond.initialized RJx4a65c, Cond.code yJx4a65c_add_72be8 cJx4a65c_add_72be8 4 none, Cond.methodLink RJx4a65c 129 yJx4a65c_grow_d5877, Cond.instanceMethod yJx4a65c_grow_d5877, Cond.selects RJx4a65c yJx4a65c_grow_d5877 yJx4a65c_grow_d5877, Cond.code yJx4a65c_grow_d5877 cJx4a65c_grow_d5877 1 (some (.array (.object "java/lang/Object"))), Cond.methodLink RJx4a65c 69 yJx4a65c_grow_92f84, Cond.instanceMethod yJx4a65c_grow_92f84, Cond.selects RJx4a65c yJx4a65c_grow_92f84 yJx4a65c_grow_92f84, Cond.code yJx4a65c_grow_92f84 cJx4a65c_grow_92f84 4 (some (.array (.object "java/lang/Object"))), Cond.fieldLink RJx4a65c 39 "java/util/ArrayList" "DEFAULTCAPACITY_EMPTY_ELEMENTDATA" "[Ljava/lang/Object;", Cond.methodLink RJx4a65c 79 Lib.Math.max.name, Cond.static Lib.Math.max.name, Cond.initialized "java/lang/Math", Cond.code Lib.Math.max.name Lib.Math.max.code 2 (some .int), Cond.classLink RJx4a65c 7 "java/lang/Object", Cond.methodLink RJx4a65c 73 yJ8_newLength_cabcc]
def wsJx4a65c_add_9ea2d_r2 : List Cond := [Cond.static yJ8_newLength_cabcc, Cond.initialized RJ8, Cond.code yJ8_newLength_cabcc cJ8_newLength_cabcc 4 (some .int), Cond.methodLink RJ8 194 Lib.Math.max.name, Cond.constant RJ8 200 (2147483639), Cond.methodLink RJ8 201 yJ8_hugeLength_7cf53, Cond.static yJ8_hugeLength_7cf53, Cond.code yJ8_hugeLength_7cf53 cJ8_hugeLength_7cf53 3 (some .int), Cond.methodLink RJx4a65c 66 yJ7_copyOf_1904c, Cond.static yJ7_copyOf_1904c, Cond.initialized RJ7, Cond.code yJ7_copyOf_1904c cJ7_copyOf_1904c 2 (some (.array (.object "java/lang/Object"))), Cond.methodLink RJ7 86 ⟨"java/lang/Object", "getClass", "()Ljava/lang/Class;"⟩, Cond.selects "[Ljava/lang/Object;" ⟨"java/lang/Object", "getClass", "()Ljava/lang/Class;"⟩ ⟨"java/lang/Object", "getClass", "()Ljava/lang/Class;"⟩, Cond.instanceMethod ⟨"java/lang/Object", "getClass", "()Ljava/lang/Class;"⟩, Cond.native ⟨"java/lang/Object", "getClass", "()Ljava/lang/Class;"⟩, Cond.methodLink RJ7 300 yJ7_copyOf_6403c, Cond.static yJ7_copyOf_6403c, Cond.code yJ7_copyOf_6403c cJ7_copyOf_6403c 4 (some (.array (.object "java/lang/Object"))), Cond.classLink RJ7 110 "[Ljava/lang/Object;", Cond.classLink RJ7 2 "java/lang/Object", Cond.methodLink RJ7 304 Lib.Math.min.name, Cond.static Lib.Math.min.name, Cond.code Lib.Math.min.name Lib.Math.min.code 2 (some .int)]
def wsJx4a65c_add_9ea2d_r3 : List Cond := [Cond.methodLink RJ7 150 arraycopyName, Cond.native arraycopyName, Cond.static arraycopyName, Cond.initialized "java/lang/System"]
def wsJx4a65c_add_9ea2d : List Cond := .code yJx4a65c_add_9ea2d cJx4a65c_add_9ea2d 2 (some .boolean) :: ((wsJx4a65c_add_9ea2d_r1 ++ (wsJx4a65c_add_9ea2d_r2 ++ wsJx4a65c_add_9ea2d_r3)) ++ wsJx4a65c0)
def wsX2_store_r1 : List Cond := [Cond.fieldLink RX2 20 "DeltaUpdater" "stored" "Ljava/util/ArrayList;", Cond.classLink RX2 27 RX1, Cond.instantiable RX1 1, Cond.initialized RX1, Cond.fieldLink RX2 9 "DeltaUpdater" "buffer" "[I", Cond.fieldLink RX2 13 "DeltaUpdater" "buffered" "I", Cond.methodLink RX2 57 yX2_checkRoomForVersion, Cond.instanceMethod yX2_checkRoomForVersion, Cond.selects RX2 yX2_checkRoomForVersion yX2_checkRoomForVersion, Cond.initialized RX2, Cond.code yX2_checkRoomForVersion cX2_checkRoomForVersion 1 none, Cond.classLink RX2 52 "java/lang/IllegalStateException", Cond.initialized "java/lang/IllegalStateException", Cond.methodLink RX2 64 yJx4a65c_size_8abf5, Cond.instanceMethod yJx4a65c_size_8abf5, Cond.selects RJx4a65c yJx4a65c_size_8abf5 yJx4a65c_size_8abf5, Cond.initialized RJx4a65c, Cond.code yJx4a65c_size_8abf5 cJx4a65c_size_8abf5 1 (some .int), Cond.fieldLink RJx4a65c 48 "java/util/ArrayList" "size" "I", Cond.methodLink RX2 29 yX1_init, Cond.instanceMethod yX1_init, Cond.code yX1_init cX1_init 3 none, Cond.methodLink RX1 1 objectInit, Cond.instanceMethod objectInit]
def wsX2_store_r2 : List Cond := [Cond.code objectInit ⟨#[0xb1]⟩ 1 none, Cond.fieldLink RX1 13 "DeltaUpdater$Row" "bytes" "[I", Cond.methodLink RX1 7 yJ7_copyOf_59c91, Cond.static yJ7_copyOf_59c91, Cond.initialized RJ7, Cond.code yJ7_copyOf_59c91 cJ7_copyOf_59c91 3 (some (.array .int)), Cond.methodLink RJ7 316 ⟨"[I", "clone", "()Ljava/lang/Object;"⟩, Cond.sameMethod "[I" "java/lang/Object" "clone" "()Ljava/lang/Object;", Cond.native ⟨"java/lang/Object", "clone", "()Ljava/lang/Object;"⟩, Cond.instanceMethod ⟨"java/lang/Object", "clone", "()Ljava/lang/Object;"⟩, Cond.selects "[I" ⟨"[I", "clone", "()Ljava/lang/Object;"⟩ ⟨"java/lang/Object", "clone", "()Ljava/lang/Object;"⟩, Cond.classLink RJ7 317 "[I", Cond.arrayClass .int, Cond.methodLink RJ7 304 Lib.Math.min.name, Cond.static Lib.Math.min.name, Cond.initialized "java/lang/Math", Cond.code Lib.Math.min.name Lib.Math.min.code 2 (some .int), Cond.methodLink RJ7 150 arraycopyName, Cond.native arraycopyName, Cond.static arraycopyName, Cond.initialized "java/lang/System", Cond.methodLink RX2 60 yJx4a65c_add_9ea2d, Cond.instanceMethod yJx4a65c_add_9ea2d, Cond.selects RJx4a65c yJx4a65c_add_9ea2d yJx4a65c_add_9ea2d]
def wsX2_store_r3 : List Cond := [Cond.code yJx4a65c_add_9ea2d cJx4a65c_add_9ea2d 2 (some .boolean), Cond.fieldLink RJx4a65c 63 "java/util/ArrayList" "modCount" "I", Cond.sameField "java/util/ArrayList" "java/util/AbstractList" "modCount" "I", Cond.fieldLink RJx4a65c 9 "java/util/ArrayList" "elementData" "[Ljava/lang/Object;", Cond.methodLink RJx4a65c 131 yJx4a65c_add_72be8, Cond.instanceMethod yJx4a65c_add_72be8, Cond.selects RJx4a65c yJx4a65c_add_72be8 yJx4a65c_add_72be8, Cond.code yJx4a65c_add_72be8 cJx4a65c_add_72be8 4 none, Cond.methodLink RJx4a65c 129 yJx4a65c_grow_d5877, Cond.instanceMethod yJx4a65c_grow_d5877, Cond.selects RJx4a65c yJx4a65c_grow_d5877 yJx4a65c_grow_d5877, Cond.code yJx4a65c_grow_d5877 cJx4a65c_grow_d5877 1 (some (.array (.object "java/lang/Object"))), Cond.methodLink RJx4a65c 69 yJx4a65c_grow_92f84, Cond.instanceMethod yJx4a65c_grow_92f84, Cond.selects RJx4a65c yJx4a65c_grow_92f84 yJx4a65c_grow_92f84, Cond.code yJx4a65c_grow_92f84 cJx4a65c_grow_92f84 4 (some (.array (.object "java/lang/Object"))), Cond.fieldLink RJx4a65c 39 "java/util/ArrayList" "DEFAULTCAPACITY_EMPTY_ELEMENTDATA" "[Ljava/lang/Object;", Cond.methodLink RJx4a65c 79 Lib.Math.max.name, Cond.static Lib.Math.max.name, Cond.code Lib.Math.max.name Lib.Math.max.code 2 (some .int), Cond.classLink RJx4a65c 7 "java/lang/Object", Cond.methodLink RJx4a65c 73 yJ8_newLength_cabcc, Cond.static yJ8_newLength_cabcc, Cond.initialized RJ8]
def wsX2_store_r4 : List Cond := [Cond.code yJ8_newLength_cabcc cJ8_newLength_cabcc 4 (some .int), Cond.methodLink RJ8 194 Lib.Math.max.name, Cond.constant RJ8 200 (2147483639), Cond.methodLink RJ8 201 yJ8_hugeLength_7cf53, Cond.static yJ8_hugeLength_7cf53, Cond.code yJ8_hugeLength_7cf53 cJ8_hugeLength_7cf53 3 (some .int), Cond.methodLink RJx4a65c 66 yJ7_copyOf_1904c, Cond.static yJ7_copyOf_1904c, Cond.code yJ7_copyOf_1904c cJ7_copyOf_1904c 2 (some (.array (.object "java/lang/Object"))), Cond.methodLink RJ7 86 ⟨"java/lang/Object", "getClass", "()Ljava/lang/Class;"⟩, Cond.selects "[Ljava/lang/Object;" ⟨"java/lang/Object", "getClass", "()Ljava/lang/Class;"⟩ ⟨"java/lang/Object", "getClass", "()Ljava/lang/Class;"⟩, Cond.instanceMethod ⟨"java/lang/Object", "getClass", "()Ljava/lang/Class;"⟩, Cond.native ⟨"java/lang/Object", "getClass", "()Ljava/lang/Class;"⟩, Cond.methodLink RJ7 300 yJ7_copyOf_6403c, Cond.static yJ7_copyOf_6403c, Cond.code yJ7_copyOf_6403c cJ7_copyOf_6403c 4 (some (.array (.object "java/lang/Object"))), Cond.classLink RJ7 110 "[Ljava/lang/Object;", Cond.classLink RJ7 2 "java/lang/Object"]
def wsX2_store : List Cond := .code yX2_store cX2_store 1 (some .int) :: ((wsX2_store_r1 ++ (wsX2_store_r2 ++ (wsX2_store_r3 ++ wsX2_store_r4))) ++ wsX20 ++ wsX10 ++ wsJx4a65c0 ++ (vx_atS RX2 56 "java/lang/IllegalStateException" ["java/lang/RuntimeException", "java/lang/Exception"]).filter goodWord)
def wsX2_versions : List Cond := .code yX2_versions cX2_versions 1 (some .int) :: ([.fieldLink RX2 20 "DeltaUpdater" "stored" "Ljava/util/ArrayList;", .methodLink RX2 64 yJx4a65c_size_8abf5, .instanceMethod yJx4a65c_size_8abf5, .selects RJx4a65c yJx4a65c_size_8abf5 yJx4a65c_size_8abf5, .initialized RJx4a65c, .code yJx4a65c_size_8abf5 cJx4a65c_size_8abf5 1 (some .int), .fieldLink RJx4a65c 48 "java/util/ArrayList" "size" "I"] ++ wsX20 ++ wsJx4a65c0)
def wsJ3_checkIndex_8e157 : List Cond := .code yJ3_checkIndex_8e157 cJ3_checkIndex_8e157 3 (some .int) :: ([])
def wsJ15_checkIndex_7cf53 : List Cond := .code yJ15_checkIndex_7cf53 cJ15_checkIndex_7cf53 2 (some .int) :: ([.methodLink RJ15 105 yJ3_checkIndex_8e157, .static yJ3_checkIndex_8e157, .initialized RJ3, .code yJ3_checkIndex_8e157 cJ3_checkIndex_8e157 3 (some .int)])
def wsJx4a65c_elementData_915e3 : List Cond := .code yJx4a65c_elementData_915e3 cJx4a65c_elementData_915e3 2 (some (.object "java/lang/Object")) :: ([.fieldLink RJx4a65c 9 "java/util/ArrayList" "elementData" "[Ljava/lang/Object;"] ++ wsJx4a65c0)
def wsJx4a65c_get_915e3 : List Cond := .code yJx4a65c_get_915e3 cJx4a65c_get_915e3 2 (some (.object "java/lang/Object")) :: ([.fieldLink RJx4a65c 48 "java/util/ArrayList" "size" "I", .methodLink RJx4a65c 118 yJ15_checkIndex_7cf53, .static yJ15_checkIndex_7cf53, .initialized RJ15, .code yJ15_checkIndex_7cf53 cJ15_checkIndex_7cf53 2 (some .int), .methodLink RJ15 105 yJ3_checkIndex_8e157, .static yJ3_checkIndex_8e157, .initialized RJ3, .code yJ3_checkIndex_8e157 cJ3_checkIndex_8e157 3 (some .int), .methodLink RJx4a65c 123 yJx4a65c_elementData_915e3, .instanceMethod yJx4a65c_elementData_915e3, .selects RJx4a65c yJx4a65c_elementData_915e3 yJx4a65c_elementData_915e3, .initialized RJx4a65c, .code yJx4a65c_elementData_915e3 cJx4a65c_elementData_915e3 2 (some (.object "java/lang/Object")), .fieldLink RJx4a65c 9 "java/util/ArrayList" "elementData" "[Ljava/lang/Object;"] ++ wsJx4a65c0)
def wsX2_rowOf_r1 : List Cond := [Cond.classLink RX2 75 "java/lang/IndexOutOfBoundsException", Cond.initialized "java/lang/IndexOutOfBoundsException", Cond.fieldLink RX2 20 "DeltaUpdater" "stored" "Ljava/util/ArrayList;", Cond.classLink RX2 27 "DeltaUpdater$Row", Cond.methodLink RX2 64 yJx4a65c_size_8abf5, Cond.instanceMethod yJx4a65c_size_8abf5, Cond.selects RJx4a65c yJx4a65c_size_8abf5 yJx4a65c_size_8abf5, Cond.initialized RJx4a65c, Cond.code yJx4a65c_size_8abf5 cJx4a65c_size_8abf5 1 (some .int), Cond.fieldLink RJx4a65c 48 "java/util/ArrayList" "size" "I", Cond.methodLink RX2 172 yJx4a65c_get_915e3, Cond.instanceMethod yJx4a65c_get_915e3, Cond.selects RJx4a65c yJx4a65c_get_915e3 yJx4a65c_get_915e3, Cond.code yJx4a65c_get_915e3 cJx4a65c_get_915e3 2 (some (.object "java/lang/Object")), Cond.methodLink RJx4a65c 118 yJ15_checkIndex_7cf53, Cond.static yJ15_checkIndex_7cf53, Cond.initialized RJ15, Cond.code yJ15_checkIndex_7cf53 cJ15_checkIndex_7cf53 2 (some .int), Cond.methodLink RJ15 105 yJ3_checkIndex_8e157, Cond.static yJ3_checkIndex_8e157, Cond.initialized RJ3, Cond.code yJ3_checkIndex_8e157 cJ3_checkIndex_8e157 3 (some .int), Cond.methodLink RJx4a65c 123 yJx4a65c_elementData_915e3, Cond.instanceMethod yJx4a65c_elementData_915e3]
def wsX2_rowOf_r2 : List Cond := [Cond.selects RJx4a65c yJx4a65c_elementData_915e3 yJx4a65c_elementData_915e3, Cond.code yJx4a65c_elementData_915e3 cJx4a65c_elementData_915e3 2 (some (.object "java/lang/Object")), Cond.fieldLink RJx4a65c 9 "java/util/ArrayList" "elementData" "[Ljava/lang/Object;"]
def wsX2_rowOf : List Cond := .code yX2_rowOf cX2_rowOf 2 (some (.object "DeltaUpdater$Row")) :: ((wsX2_rowOf_r1 ++ wsX2_rowOf_r2) ++ wsX20 ++ wsJx4a65c0 ++ (vx_atS RX2 79 "java/lang/IndexOutOfBoundsException" ["java/lang/RuntimeException", "java/lang/Exception"]).filter goodWord)
def wsX2_length_r1 : List Cond := [Cond.fieldLink RX2 72 "DeltaUpdater$Row" "bytes" "[I", Cond.methodLink RX2 68 yX2_rowOf, Cond.instanceMethod yX2_rowOf, Cond.selects RX2 yX2_rowOf yX2_rowOf, Cond.initialized RX2, Cond.code yX2_rowOf cX2_rowOf 2 (some (.object "DeltaUpdater$Row")), Cond.classLink RX2 75 "java/lang/IndexOutOfBoundsException", Cond.initialized "java/lang/IndexOutOfBoundsException", Cond.fieldLink RX2 20 "DeltaUpdater" "stored" "Ljava/util/ArrayList;", Cond.classLink RX2 27 "DeltaUpdater$Row", Cond.methodLink RX2 64 yJx4a65c_size_8abf5, Cond.instanceMethod yJx4a65c_size_8abf5, Cond.selects RJx4a65c yJx4a65c_size_8abf5 yJx4a65c_size_8abf5, Cond.initialized RJx4a65c, Cond.code yJx4a65c_size_8abf5 cJx4a65c_size_8abf5 1 (some .int), Cond.fieldLink RJx4a65c 48 "java/util/ArrayList" "size" "I", Cond.methodLink RX2 172 yJx4a65c_get_915e3, Cond.instanceMethod yJx4a65c_get_915e3, Cond.selects RJx4a65c yJx4a65c_get_915e3 yJx4a65c_get_915e3, Cond.code yJx4a65c_get_915e3 cJx4a65c_get_915e3 2 (some (.object "java/lang/Object")), Cond.methodLink RJx4a65c 118 yJ15_checkIndex_7cf53, Cond.static yJ15_checkIndex_7cf53, Cond.initialized RJ15, Cond.code yJ15_checkIndex_7cf53 cJ15_checkIndex_7cf53 2 (some .int)]
def wsX2_length_r2 : List Cond := [Cond.methodLink RJ15 105 yJ3_checkIndex_8e157, Cond.static yJ3_checkIndex_8e157, Cond.initialized RJ3, Cond.code yJ3_checkIndex_8e157 cJ3_checkIndex_8e157 3 (some .int), Cond.methodLink RJx4a65c 123 yJx4a65c_elementData_915e3, Cond.instanceMethod yJx4a65c_elementData_915e3, Cond.selects RJx4a65c yJx4a65c_elementData_915e3 yJx4a65c_elementData_915e3, Cond.code yJx4a65c_elementData_915e3 cJx4a65c_elementData_915e3 2 (some (.object "java/lang/Object")), Cond.fieldLink RJx4a65c 9 "java/util/ArrayList" "elementData" "[Ljava/lang/Object;"]
def wsX2_length : List Cond := .code yX2_length cX2_length 2 (some .int) :: ((wsX2_length_r1 ++ wsX2_length_r2) ++ wsX10 ++ wsX20 ++ wsJx4a65c0 ++ (vx_atS RX2 79 "java/lang/IndexOutOfBoundsException" ["java/lang/RuntimeException", "java/lang/Exception"]).filter goodWord)
def wsX2_byteAt_r1 : List Cond := [Cond.classLink RX2 75 "java/lang/IndexOutOfBoundsException", Cond.initialized "java/lang/IndexOutOfBoundsException", Cond.fieldLink RX2 72 "DeltaUpdater$Row" "bytes" "[I", Cond.methodLink RX2 68 yX2_rowOf, Cond.instanceMethod yX2_rowOf, Cond.selects RX2 yX2_rowOf yX2_rowOf, Cond.initialized RX2, Cond.code yX2_rowOf cX2_rowOf 2 (some (.object "DeltaUpdater$Row")), Cond.fieldLink RX2 20 "DeltaUpdater" "stored" "Ljava/util/ArrayList;", Cond.classLink RX2 27 "DeltaUpdater$Row", Cond.methodLink RX2 64 yJx4a65c_size_8abf5, Cond.instanceMethod yJx4a65c_size_8abf5, Cond.selects RJx4a65c yJx4a65c_size_8abf5 yJx4a65c_size_8abf5, Cond.initialized RJx4a65c, Cond.code yJx4a65c_size_8abf5 cJx4a65c_size_8abf5 1 (some .int), Cond.fieldLink RJx4a65c 48 "java/util/ArrayList" "size" "I", Cond.methodLink RX2 172 yJx4a65c_get_915e3, Cond.instanceMethod yJx4a65c_get_915e3, Cond.selects RJx4a65c yJx4a65c_get_915e3 yJx4a65c_get_915e3, Cond.code yJx4a65c_get_915e3 cJx4a65c_get_915e3 2 (some (.object "java/lang/Object")), Cond.methodLink RJx4a65c 118 yJ15_checkIndex_7cf53, Cond.static yJ15_checkIndex_7cf53, Cond.initialized RJ15, Cond.code yJ15_checkIndex_7cf53 cJ15_checkIndex_7cf53 2 (some .int)]
def wsX2_byteAt_r2 : List Cond := [Cond.methodLink RJ15 105 yJ3_checkIndex_8e157, Cond.static yJ3_checkIndex_8e157, Cond.initialized RJ3, Cond.code yJ3_checkIndex_8e157 cJ3_checkIndex_8e157 3 (some .int), Cond.methodLink RJx4a65c 123 yJx4a65c_elementData_915e3, Cond.instanceMethod yJx4a65c_elementData_915e3, Cond.selects RJx4a65c yJx4a65c_elementData_915e3 yJx4a65c_elementData_915e3, Cond.code yJx4a65c_elementData_915e3 cJx4a65c_elementData_915e3 2 (some (.object "java/lang/Object")), Cond.fieldLink RJx4a65c 9 "java/util/ArrayList" "elementData" "[Ljava/lang/Object;"]
def wsX2_byteAt : List Cond := .code yX2_byteAt cX2_byteAt 4 (some .int) :: ((wsX2_byteAt_r1 ++ wsX2_byteAt_r2) ++ wsX10 ++ wsX20 ++ wsJx4a65c0 ++ (vx_atS RX2 79 "java/lang/IndexOutOfBoundsException" ["java/lang/RuntimeException", "java/lang/Exception"]).filter goodWord)
def wsX2_areSame_r1 : List Cond := [Cond.methodLink RX2 68 yX2_rowOf, Cond.instanceMethod yX2_rowOf, Cond.selects RX2 yX2_rowOf yX2_rowOf, Cond.initialized RX2, Cond.code yX2_rowOf cX2_rowOf 2 (some (.object "DeltaUpdater$Row")), Cond.classLink RX2 75 "java/lang/IndexOutOfBoundsException", Cond.initialized "java/lang/IndexOutOfBoundsException", Cond.fieldLink RX2 20 "DeltaUpdater" "stored" "Ljava/util/ArrayList;", Cond.classLink RX2 27 "DeltaUpdater$Row", Cond.methodLink RX2 64 yJx4a65c_size_8abf5, Cond.instanceMethod yJx4a65c_size_8abf5, Cond.selects RJx4a65c yJx4a65c_size_8abf5 yJx4a65c_size_8abf5, Cond.initialized RJx4a65c, Cond.code yJx4a65c_size_8abf5 cJx4a65c_size_8abf5 1 (some .int), Cond.fieldLink RJx4a65c 48 "java/util/ArrayList" "size" "I", Cond.methodLink RX2 172 yJx4a65c_get_915e3, Cond.instanceMethod yJx4a65c_get_915e3, Cond.selects RJx4a65c yJx4a65c_get_915e3 yJx4a65c_get_915e3, Cond.code yJx4a65c_get_915e3 cJx4a65c_get_915e3 2 (some (.object "java/lang/Object")), Cond.methodLink RJx4a65c 118 yJ15_checkIndex_7cf53, Cond.static yJ15_checkIndex_7cf53, Cond.initialized RJ15, Cond.code yJ15_checkIndex_7cf53 cJ15_checkIndex_7cf53 2 (some .int), Cond.methodLink RJ15 105 yJ3_checkIndex_8e157]
def wsX2_areSame_r2 : List Cond := [Cond.static yJ3_checkIndex_8e157, Cond.initialized RJ3, Cond.code yJ3_checkIndex_8e157 cJ3_checkIndex_8e157 3 (some .int), Cond.methodLink RJx4a65c 123 yJx4a65c_elementData_915e3, Cond.instanceMethod yJx4a65c_elementData_915e3, Cond.selects RJx4a65c yJx4a65c_elementData_915e3 yJx4a65c_elementData_915e3, Cond.code yJx4a65c_elementData_915e3 cJx4a65c_elementData_915e3 2 (some (.object "java/lang/Object")), Cond.fieldLink RJx4a65c 9 "java/util/ArrayList" "elementData" "[Ljava/lang/Object;", Cond.methodLink RX2 80 yX1_hasBytesOf, Cond.instanceMethod yX1_hasBytesOf, Cond.selects RX1 yX1_hasBytesOf yX1_hasBytesOf, Cond.initialized RX1, Cond.code yX1_hasBytesOf cX1_hasBytesOf 2 (some .boolean), Cond.fieldLink RX1 13 "DeltaUpdater$Row" "bytes" "[I", Cond.methodLink RX1 19 yX1_hasStretch, Cond.instanceMethod yX1_hasStretch, Cond.selects RX1 yX1_hasStretch yX1_hasStretch, Cond.code yX1_hasStretch cX1_hasStretch 6 (some .boolean)]
def wsX2_areSame : List Cond := .code yX2_areSame cX2_areSame 3 (some .boolean) :: ((wsX2_areSame_r1 ++ wsX2_areSame_r2) ++ wsX20 ++ wsJx4a65c0 ++ wsX10 ++ (vx_atS RX2 79 "java/lang/IndexOutOfBoundsException" ["java/lang/RuntimeException", "java/lang/Exception"]).filter goodWord)
def wsX2_weakSum_r1 : List Cond := [Cond.classLink RX2 45 "java/lang/IllegalArgumentException", Cond.initialized "java/lang/IllegalArgumentException", Cond.fieldLink RX2 72 "DeltaUpdater$Row" "bytes" "[I", Cond.methodLink RX2 68 yX2_rowOf, Cond.instanceMethod yX2_rowOf, Cond.selects RX2 yX2_rowOf yX2_rowOf, Cond.initialized RX2, Cond.code yX2_rowOf cX2_rowOf 2 (some (.object "DeltaUpdater$Row")), Cond.classLink RX2 75 "java/lang/IndexOutOfBoundsException", Cond.initialized "java/lang/IndexOutOfBoundsException", Cond.fieldLink RX2 20 "DeltaUpdater" "stored" "Ljava/util/ArrayList;", Cond.classLink RX2 27 "DeltaUpdater$Row", Cond.methodLink RX2 64 yJx4a65c_size_8abf5, Cond.instanceMethod yJx4a65c_size_8abf5, Cond.selects RJx4a65c yJx4a65c_size_8abf5 yJx4a65c_size_8abf5, Cond.initialized RJx4a65c, Cond.code yJx4a65c_size_8abf5 cJx4a65c_size_8abf5 1 (some .int), Cond.fieldLink RJx4a65c 48 "java/util/ArrayList" "size" "I", Cond.methodLink RX2 172 yJx4a65c_get_915e3, Cond.instanceMethod yJx4a65c_get_915e3, Cond.selects RJx4a65c yJx4a65c_get_915e3 yJx4a65c_get_915e3, Cond.code yJx4a65c_get_915e3 cJx4a65c_get_915e3 2 (some (.object "java/lang/Object")), Cond.methodLink RJx4a65c 118 yJ15_checkIndex_7cf53, Cond.static yJ15_checkIndex_7cf53]
def wsX2_weakSum_r2 : List Cond := [Cond.initialized RJ15, Cond.code yJ15_checkIndex_7cf53 cJ15_checkIndex_7cf53 2 (some .int), Cond.methodLink RJ15 105 yJ3_checkIndex_8e157, Cond.static yJ3_checkIndex_8e157, Cond.initialized RJ3, Cond.code yJ3_checkIndex_8e157 cJ3_checkIndex_8e157 3 (some .int), Cond.methodLink RJx4a65c 123 yJx4a65c_elementData_915e3, Cond.instanceMethod yJx4a65c_elementData_915e3, Cond.selects RJx4a65c yJx4a65c_elementData_915e3 yJx4a65c_elementData_915e3, Cond.code yJx4a65c_elementData_915e3 cJx4a65c_elementData_915e3 2 (some (.object "java/lang/Object")), Cond.fieldLink RJx4a65c 9 "java/util/ArrayList" "elementData" "[Ljava/lang/Object;", Cond.methodLink RX2 88 yX1_sumOf, Cond.instanceMethod yX1_sumOf, Cond.selects RX1 yX1_sumOf yX1_sumOf, Cond.initialized RX1, Cond.code yX1_sumOf cX1_sumOf 6 (some .int), Cond.fieldLink RX1 13 "DeltaUpdater$Row" "bytes" "[I"]
def wsX2_weakSum : List Cond := .code yX2_weakSum cX2_weakSum 5 (some .int) :: ((wsX2_weakSum_r1 ++ wsX2_weakSum_r2) ++ wsX10 ++ wsX20 ++ wsJx4a65c0 ++ (vx_atS RX2 49 "java/lang/IllegalArgumentException" ["java/lang/RuntimeException", "java/lang/Exception"]).filter goodWord ++ (vx_atS RX2 79 "java/lang/IndexOutOfBoundsException" ["java/lang/RuntimeException", "java/lang/Exception"]).filter goodWord)
def wsX2_checkSize : List Cond := .code yX2_checkSize cX2_checkSize 1 none :: ([.classLink RX2 45 "java/lang/IllegalArgumentException", .initialized "java/lang/IllegalArgumentException"] ++ (vx_atS RX2 49 "java/lang/IllegalArgumentException" ["java/lang/RuntimeException", "java/lang/Exception"]).filter goodWord)
def wsX2_collisions_r1 : List Cond := [Cond.fieldLink RX2 72 "DeltaUpdater$Row" "bytes" "[I", Cond.fieldLink RX2 39 "DeltaUpdater" "blockSums" "[I", Cond.methodLink RX2 68 yX2_rowOf, Cond.instanceMethod yX2_rowOf, Cond.selects RX2 yX2_rowOf yX2_rowOf, Cond.initialized RX2, Cond.code yX2_rowOf cX2_rowOf 2 (some (.object "DeltaUpdater$Row")), Cond.classLink RX2 75 "java/lang/IndexOutOfBoundsException", Cond.initialized "java/lang/IndexOutOfBoundsException", Cond.fieldLink RX2 20 "DeltaUpdater" "stored" "Ljava/util/ArrayList;", Cond.classLink RX2 27 "DeltaUpdater$Row", Cond.methodLink RX2 64 yJx4a65c_size_8abf5, Cond.instanceMethod yJx4a65c_size_8abf5, Cond.selects RJx4a65c yJx4a65c_size_8abf5 yJx4a65c_size_8abf5, Cond.initialized RJx4a65c, Cond.code yJx4a65c_size_8abf5 cJx4a65c_size_8abf5 1 (some .int), Cond.fieldLink RJx4a65c 48 "java/util/ArrayList" "size" "I", Cond.methodLink RX2 172 yJx4a65c_get_915e3, Cond.instanceMethod yJx4a65c_get_915e3, Cond.selects RJx4a65c yJx4a65c_get_915e3 yJx4a65c_get_915e3, Cond.code yJx4a65c_get_915e3 cJx4a65c_get_915e3 2 (some (.object "java/lang/Object")), Cond.methodLink RJx4a65c 118 yJ15_checkIndex_7cf53, Cond.static yJ15_checkIndex_7cf53, Cond.initialized RJ15]
def wsX2_collisions_r2 : List Cond := [Cond.code yJ15_checkIndex_7cf53 cJ15_checkIndex_7cf53 2 (some .int), Cond.methodLink RJ15 105 yJ3_checkIndex_8e157, Cond.static yJ3_checkIndex_8e157, Cond.initialized RJ3, Cond.code yJ3_checkIndex_8e157 cJ3_checkIndex_8e157 3 (some .int), Cond.methodLink RJx4a65c 123 yJx4a65c_elementData_915e3, Cond.instanceMethod yJx4a65c_elementData_915e3, Cond.selects RJx4a65c yJx4a65c_elementData_915e3 yJx4a65c_elementData_915e3, Cond.code yJx4a65c_elementData_915e3 cJx4a65c_elementData_915e3 2 (some (.object "java/lang/Object")), Cond.fieldLink RJx4a65c 9 "java/util/ArrayList" "elementData" "[Ljava/lang/Object;", Cond.methodLink RX2 92 yX2_checkSize, Cond.static yX2_checkSize, Cond.code yX2_checkSize cX2_checkSize 1 none, Cond.classLink RX2 45 "java/lang/IllegalArgumentException", Cond.initialized "java/lang/IllegalArgumentException", Cond.methodLink RX2 88 yX1_sumOf, Cond.instanceMethod yX1_sumOf, Cond.selects RX1 yX1_sumOf yX1_sumOf, Cond.initialized RX1, Cond.code yX1_sumOf cX1_sumOf 6 (some .int), Cond.fieldLink RX1 13 "DeltaUpdater$Row" "bytes" "[I", Cond.methodLink RX2 96 yX1_hasStretch, Cond.instanceMethod yX1_hasStretch, Cond.selects RX1 yX1_hasStretch yX1_hasStretch]
def wsX2_collisions_r3 : List Cond := [Cond.code yX1_hasStretch cX1_hasStretch 6 (some .boolean)]
def wsX2_collisions : List Cond := .code yX2_collisions cX2_collisions 8 (some .int) :: ((wsX2_collisions_r1 ++ (wsX2_collisions_r2 ++ wsX2_collisions_r3)) ++ wsX10 ++ wsX20 ++ wsJx4a65c0 ++ (vx_atS RX2 79 "java/lang/IndexOutOfBoundsException" ["java/lang/RuntimeException", "java/lang/Exception"]).filter goodWord ++ (vx_atS RX2 49 "java/lang/IllegalArgumentException" ["java/lang/RuntimeException", "java/lang/Exception"]).filter goodWord)
def wsX2_firstBlock : List Cond := .code yX2_firstBlock cX2_firstBlock 6 (some .int) :: ([.fieldLink RX2 72 "DeltaUpdater$Row" "bytes" "[I", .methodLink RX2 96 yX1_hasStretch, .instanceMethod yX1_hasStretch, .selects RX1 yX1_hasStretch yX1_hasStretch, .initialized RX1, .code yX1_hasStretch cX1_hasStretch 6 (some .boolean), .fieldLink RX1 13 "DeltaUpdater$Row" "bytes" "[I"] ++ wsX10)
def wsX2_differentBlocks_r1 : List Cond := [Cond.fieldLink RX2 72 "DeltaUpdater$Row" "bytes" "[I", Cond.methodLink RX2 68 yX2_rowOf, Cond.instanceMethod yX2_rowOf, Cond.selects RX2 yX2_rowOf yX2_rowOf, Cond.initialized RX2, Cond.code yX2_rowOf cX2_rowOf 2 (some (.object "DeltaUpdater$Row")), Cond.classLink RX2 75 "java/lang/IndexOutOfBoundsException", Cond.initialized "java/lang/IndexOutOfBoundsException", Cond.fieldLink RX2 20 "DeltaUpdater" "stored" "Ljava/util/ArrayList;", Cond.classLink RX2 27 "DeltaUpdater$Row", Cond.methodLink RX2 64 yJx4a65c_size_8abf5, Cond.instanceMethod yJx4a65c_size_8abf5, Cond.selects RJx4a65c yJx4a65c_size_8abf5 yJx4a65c_size_8abf5, Cond.initialized RJx4a65c, Cond.code yJx4a65c_size_8abf5 cJx4a65c_size_8abf5 1 (some .int), Cond.fieldLink RJx4a65c 48 "java/util/ArrayList" "size" "I", Cond.methodLink RX2 172 yJx4a65c_get_915e3, Cond.instanceMethod yJx4a65c_get_915e3, Cond.selects RJx4a65c yJx4a65c_get_915e3 yJx4a65c_get_915e3, Cond.code yJx4a65c_get_915e3 cJx4a65c_get_915e3 2 (some (.object "java/lang/Object")), Cond.methodLink RJx4a65c 118 yJ15_checkIndex_7cf53, Cond.static yJ15_checkIndex_7cf53, Cond.initialized RJ15, Cond.code yJ15_checkIndex_7cf53 cJ15_checkIndex_7cf53 2 (some .int)]
def wsX2_differentBlocks_r2 : List Cond := [Cond.methodLink RJ15 105 yJ3_checkIndex_8e157, Cond.static yJ3_checkIndex_8e157, Cond.initialized RJ3, Cond.code yJ3_checkIndex_8e157 cJ3_checkIndex_8e157 3 (some .int), Cond.methodLink RJx4a65c 123 yJx4a65c_elementData_915e3, Cond.instanceMethod yJx4a65c_elementData_915e3, Cond.selects RJx4a65c yJx4a65c_elementData_915e3 yJx4a65c_elementData_915e3, Cond.code yJx4a65c_elementData_915e3 cJx4a65c_elementData_915e3 2 (some (.object "java/lang/Object")), Cond.fieldLink RJx4a65c 9 "java/util/ArrayList" "elementData" "[Ljava/lang/Object;", Cond.methodLink RX2 92 yX2_checkSize, Cond.static yX2_checkSize, Cond.code yX2_checkSize cX2_checkSize 1 none, Cond.classLink RX2 45 "java/lang/IllegalArgumentException", Cond.initialized "java/lang/IllegalArgumentException", Cond.methodLink RX2 100 yX2_firstBlock, Cond.static yX2_firstBlock, Cond.code yX2_firstBlock cX2_firstBlock 6 (some .int), Cond.methodLink RX2 96 yX1_hasStretch, Cond.instanceMethod yX1_hasStretch, Cond.selects RX1 yX1_hasStretch yX1_hasStretch, Cond.initialized RX1, Cond.code yX1_hasStretch cX1_hasStretch 6 (some .boolean), Cond.fieldLink RX1 13 "DeltaUpdater$Row" "bytes" "[I"]
def wsX2_differentBlocks : List Cond := .code yX2_differentBlocks cX2_differentBlocks 7 (some .int) :: ((wsX2_differentBlocks_r1 ++ wsX2_differentBlocks_r2) ++ wsX10 ++ wsX20 ++ wsJx4a65c0 ++ (vx_atS RX2 79 "java/lang/IndexOutOfBoundsException" ["java/lang/RuntimeException", "java/lang/Exception"]).filter goodWord ++ (vx_atS RX2 49 "java/lang/IllegalArgumentException" ["java/lang/RuntimeException", "java/lang/Exception"]).filter goodWord)
def wsX2_checkRoomForPatch : List Cond := .code yX2_checkRoomForPatch cX2_checkRoomForPatch 1 none :: ([.classLink RX2 52 "java/lang/IllegalStateException", .initialized "java/lang/IllegalStateException", .fieldLink RX2 24 "DeltaUpdater" "made" "Ljava/util/ArrayList;", .methodLink RX2 64 yJx4a65c_size_8abf5, .instanceMethod yJx4a65c_size_8abf5, .selects RJx4a65c yJx4a65c_size_8abf5 yJx4a65c_size_8abf5, .initialized RJx4a65c, .code yJx4a65c_size_8abf5 cJx4a65c_size_8abf5 1 (some .int), .fieldLink RJx4a65c 48 "java/util/ArrayList" "size" "I"] ++ wsX20 ++ wsJx4a65c0 ++ (vx_atS RX2 56 "java/lang/IllegalStateException" ["java/lang/RuntimeException", "java/lang/Exception"]).filter goodWord)
def wsX2_blockToCopy : List Cond := .code yX2_blockToCopy cX2_blockToCopy 6 (some .int) :: ([.fieldLink RX2 72 "DeltaUpdater$Row" "bytes" "[I", .methodLink RX2 96 yX1_hasStretch, .instanceMethod yX1_hasStretch, .selects RX1 yX1_hasStretch yX1_hasStretch, .initialized RX1, .code yX1_hasStretch cX1_hasStretch 6 (some .boolean), .fieldLink RX1 13 "DeltaUpdater$Row" "bytes" "[I", .methodLink RX2 100 yX2_firstBlock, .static yX2_firstBlock, .initialized RX2, .code yX2_firstBlock cX2_firstBlock 6 (some .int)] ++ wsX10)
def wsX2_originsByBlocks : List Cond := .code yX2_originsByBlocks cX2_originsByBlocks 8 (some (.array .int)) :: ([.fieldLink RX2 72 "DeltaUpdater$Row" "bytes" "[I", .arrayClass .int, .methodLink RX2 201 yX2_blockToCopy, .static yX2_blockToCopy, .initialized RX2, .code yX2_blockToCopy cX2_blockToCopy 6 (some .int), .methodLink RX2 96 yX1_hasStretch, .instanceMethod yX1_hasStretch, .selects RX1 yX1_hasStretch yX1_hasStretch, .initialized RX1, .code yX1_hasStretch cX1_hasStretch 6 (some .boolean), .fieldLink RX1 13 "DeltaUpdater$Row" "bytes" "[I", .methodLink RX2 100 yX2_firstBlock, .static yX2_firstBlock, .code yX2_firstBlock cX2_firstBlock 6 (some .int)] ++ wsX10)
def wsX2_firstLike_r1 : List Cond := [Cond.methodLink RX2 68 yX2_rowOf, Cond.instanceMethod yX2_rowOf, Cond.selects RX2 yX2_rowOf yX2_rowOf, Cond.initialized RX2, Cond.code yX2_rowOf cX2_rowOf 2 (some (.object "DeltaUpdater$Row")), Cond.classLink RX2 75 "java/lang/IndexOutOfBoundsException", Cond.initialized "java/lang/IndexOutOfBoundsException", Cond.fieldLink RX2 20 "DeltaUpdater" "stored" "Ljava/util/ArrayList;", Cond.classLink RX2 27 "DeltaUpdater$Row", Cond.methodLink RX2 64 yJx4a65c_size_8abf5, Cond.instanceMethod yJx4a65c_size_8abf5, Cond.selects RJx4a65c yJx4a65c_size_8abf5 yJx4a65c_size_8abf5, Cond.initialized RJx4a65c, Cond.code yJx4a65c_size_8abf5 cJx4a65c_size_8abf5 1 (some .int), Cond.fieldLink RJx4a65c 48 "java/util/ArrayList" "size" "I", Cond.methodLink RX2 172 yJx4a65c_get_915e3, Cond.instanceMethod yJx4a65c_get_915e3, Cond.selects RJx4a65c yJx4a65c_get_915e3 yJx4a65c_get_915e3, Cond.code yJx4a65c_get_915e3 cJx4a65c_get_915e3 2 (some (.object "java/lang/Object")), Cond.methodLink RJx4a65c 118 yJ15_checkIndex_7cf53, Cond.static yJ15_checkIndex_7cf53, Cond.initialized RJ15, Cond.code yJ15_checkIndex_7cf53 cJ15_checkIndex_7cf53 2 (some .int), Cond.methodLink RJ15 105 yJ3_checkIndex_8e157]
def wsX2_firstLike_r2 : List Cond := [Cond.static yJ3_checkIndex_8e157, Cond.initialized RJ3, Cond.code yJ3_checkIndex_8e157 cJ3_checkIndex_8e157 3 (some .int), Cond.methodLink RJx4a65c 123 yJx4a65c_elementData_915e3, Cond.instanceMethod yJx4a65c_elementData_915e3, Cond.selects RJx4a65c yJx4a65c_elementData_915e3 yJx4a65c_elementData_915e3, Cond.code yJx4a65c_elementData_915e3 cJx4a65c_elementData_915e3 2 (some (.object "java/lang/Object")), Cond.fieldLink RJx4a65c 9 "java/util/ArrayList" "elementData" "[Ljava/lang/Object;", Cond.methodLink RX2 80 yX1_hasBytesOf, Cond.instanceMethod yX1_hasBytesOf, Cond.selects RX1 yX1_hasBytesOf yX1_hasBytesOf, Cond.initialized RX1, Cond.code yX1_hasBytesOf cX1_hasBytesOf 2 (some .boolean), Cond.fieldLink RX1 13 "DeltaUpdater$Row" "bytes" "[I", Cond.methodLink RX1 19 yX1_hasStretch, Cond.instanceMethod yX1_hasStretch, Cond.selects RX1 yX1_hasStretch yX1_hasStretch, Cond.code yX1_hasStretch cX1_hasStretch 6 (some .boolean)]
def wsX2_firstLike : List Cond := .code yX2_firstLike cX2_firstLike 4 (some .int) :: ((wsX2_firstLike_r1 ++ wsX2_firstLike_r2) ++ wsX20 ++ wsJx4a65c0 ++ wsX10 ++ (vx_atS RX2 79 "java/lang/IndexOutOfBoundsException" ["java/lang/RuntimeException", "java/lang/Exception"]).filter goodWord)
def wsX2_difference_r1 : List Cond := [Cond.fieldLink RX2 24 "DeltaUpdater" "made" "Ljava/util/ArrayList;", Cond.classLink RX2 111 RX0, Cond.instantiable RX0 7, Cond.initialized RX0, Cond.methodLink RX2 68 yX2_rowOf, Cond.instanceMethod yX2_rowOf, Cond.selects RX2 yX2_rowOf yX2_rowOf, Cond.initialized RX2, Cond.code yX2_rowOf cX2_rowOf 2 (some (.object "DeltaUpdater$Row")), Cond.classLink RX2 75 "java/lang/IndexOutOfBoundsException", Cond.initialized "java/lang/IndexOutOfBoundsException", Cond.fieldLink RX2 20 "DeltaUpdater" "stored" "Ljava/util/ArrayList;", Cond.classLink RX2 27 "DeltaUpdater$Row", Cond.methodLink RX2 64 yJx4a65c_size_8abf5, Cond.instanceMethod yJx4a65c_size_8abf5, Cond.selects RJx4a65c yJx4a65c_size_8abf5 yJx4a65c_size_8abf5, Cond.initialized RJx4a65c, Cond.code yJx4a65c_size_8abf5 cJx4a65c_size_8abf5 1 (some .int), Cond.fieldLink RJx4a65c 48 "java/util/ArrayList" "size" "I", Cond.methodLink RX2 172 yJx4a65c_get_915e3, Cond.instanceMethod yJx4a65c_get_915e3, Cond.selects RJx4a65c yJx4a65c_get_915e3 yJx4a65c_get_915e3, Cond.code yJx4a65c_get_915e3 cJx4a65c_get_915e3 2 (some (.object "java/lang/Object")), Cond.methodLink RJx4a65c 118 yJ15_checkIndex_7cf53]
def wsX2_difference_r2 : List Cond := [Cond.static yJ15_checkIndex_7cf53, Cond.initialized RJ15, Cond.code yJ15_checkIndex_7cf53 cJ15_checkIndex_7cf53 2 (some .int), Cond.methodLink RJ15 105 yJ3_checkIndex_8e157, Cond.static yJ3_checkIndex_8e157, Cond.initialized RJ3, Cond.code yJ3_checkIndex_8e157 cJ3_checkIndex_8e157 3 (some .int), Cond.methodLink RJx4a65c 123 yJx4a65c_elementData_915e3, Cond.instanceMethod yJx4a65c_elementData_915e3, Cond.selects RJx4a65c yJx4a65c_elementData_915e3 yJx4a65c_elementData_915e3, Cond.code yJx4a65c_elementData_915e3 cJx4a65c_elementData_915e3 2 (some (.object "java/lang/Object")), Cond.fieldLink RJx4a65c 9 "java/util/ArrayList" "elementData" "[Ljava/lang/Object;", Cond.methodLink RX2 92 yX2_checkSize, Cond.static yX2_checkSize, Cond.code yX2_checkSize cX2_checkSize 1 none, Cond.classLink RX2 45 "java/lang/IllegalArgumentException", Cond.initialized "java/lang/IllegalArgumentException", Cond.methodLink RX2 104 yX2_checkRoomForPatch, Cond.instanceMethod yX2_checkRoomForPatch, Cond.selects RX2 yX2_checkRoomForPatch yX2_checkRoomForPatch, Cond.code yX2_checkRoomForPatch cX2_checkRoomForPatch 1 none, Cond.classLink RX2 52 "java/lang/IllegalStateException", Cond.initialized "java/lang/IllegalStateException", Cond.methodLink RX2 107 yX2_originsByBlocks]
def wsX2_difference_r3 : List Cond := [Cond.static yX2_originsByBlocks, Cond.code yX2_originsByBlocks cX2_originsByBlocks 8 (some (.array .int)), Cond.fieldLink RX2 72 "DeltaUpdater$Row" "bytes" "[I", Cond.arrayClass .int, Cond.methodLink RX2 201 yX2_blockToCopy, Cond.static yX2_blockToCopy, Cond.code yX2_blockToCopy cX2_blockToCopy 6 (some .int), Cond.methodLink RX2 96 yX1_hasStretch, Cond.instanceMethod yX1_hasStretch, Cond.selects RX1 yX1_hasStretch yX1_hasStretch, Cond.initialized RX1, Cond.code yX1_hasStretch cX1_hasStretch 6 (some .boolean), Cond.fieldLink RX1 13 "DeltaUpdater$Row" "bytes" "[I", Cond.methodLink RX2 100 yX2_firstBlock, Cond.static yX2_firstBlock, Cond.code yX2_firstBlock cX2_firstBlock 6 (some .int), Cond.methodLink RX2 113 yX2_firstLike, Cond.instanceMethod yX2_firstLike, Cond.selects RX2 yX2_firstLike yX2_firstLike, Cond.code yX2_firstLike cX2_firstLike 4 (some .int), Cond.methodLink RX2 80 yX1_hasBytesOf, Cond.instanceMethod yX1_hasBytesOf, Cond.selects RX1 yX1_hasBytesOf yX1_hasBytesOf, Cond.code yX1_hasBytesOf cX1_hasBytesOf 2 (some .boolean)]
def wsX2_difference_r4 : List Cond := [Cond.methodLink RX1 19 yX1_hasStretch, Cond.methodLink RX2 117 yX0_init, Cond.instanceMethod yX0_init, Cond.code yX0_init cX0_init 5 none, Cond.methodLink RX0 3 objectInit, Cond.instanceMethod objectInit, Cond.code objectInit ⟨#[0xb1]⟩ 1 none, Cond.fieldLink RX0 9 "DeltaUpdater$Patch" "base" "I", Cond.fieldLink RX0 15 "DeltaUpdater$Patch" "goal" "I", Cond.fieldLink RX0 18 "DeltaUpdater$Patch" "goalRow" "LDeltaUpdater$Row;", Cond.fieldLink RX0 22 "DeltaUpdater$Patch" "origins" "[I", Cond.fieldLink RX0 30 "DeltaUpdater$Patch" "starts" "[I", Cond.fieldLink RX0 37 "DeltaUpdater$Patch" "literalBytes" "I", Cond.fieldLink RX0 44 "DeltaUpdater$Patch" "price" "I", Cond.methodLink RX0 26 yX0_startsIn, Cond.static yX0_startsIn, Cond.code yX0_startsIn cX0_startsIn 4 (some (.array .int)), Cond.methodLink RX0 47 yX0_startsAt, Cond.static yX0_startsAt, Cond.code yX0_startsAt cX0_startsAt 3 (some .boolean), Cond.methodLink RX0 51 yJ7_copyOf_59c91, Cond.static yJ7_copyOf_59c91, Cond.initialized RJ7, Cond.code yJ7_copyOf_59c91 cJ7_copyOf_59c91 3 (some (.array .int))]
def wsX2_difference_r5 : List Cond := [Cond.methodLink RJ7 316 ⟨"[I", "clone", "()Ljava/lang/Object;"⟩, Cond.sameMethod "[I" "java/lang/Object" "clone" "()Ljava/lang/Object;", Cond.native ⟨"java/lang/Object", "clone", "()Ljava/lang/Object;"⟩, Cond.instanceMethod ⟨"java/lang/Object", "clone", "()Ljava/lang/Object;"⟩, Cond.selects "[I" ⟨"[I", "clone", "()Ljava/lang/Object;"⟩ ⟨"java/lang/Object", "clone", "()Ljava/lang/Object;"⟩, Cond.classLink RJ7 317 "[I", Cond.methodLink RJ7 304 Lib.Math.min.name, Cond.static Lib.Math.min.name, Cond.initialized "java/lang/Math", Cond.code Lib.Math.min.name Lib.Math.min.code 2 (some .int), Cond.methodLink RJ7 150 arraycopyName, Cond.native arraycopyName, Cond.static arraycopyName, Cond.initialized "java/lang/System", Cond.methodLink RX0 33 yX0_literalsIn, Cond.static yX0_literalsIn, Cond.code yX0_literalsIn cX0_literalsIn 3 (some .int), Cond.methodLink RX0 40 yX0_priceOf, Cond.static yX0_priceOf, Cond.code yX0_priceOf cX0_priceOf 5 (some .int), Cond.methodLink RX2 60 yJx4a65c_add_9ea2d, Cond.instanceMethod yJx4a65c_add_9ea2d, Cond.selects RJx4a65c yJx4a65c_add_9ea2d yJx4a65c_add_9ea2d, Cond.code yJx4a65c_add_9ea2d cJx4a65c_add_9ea2d 2 (some .boolean)]
def wsX2_difference_r6 : List Cond := [Cond.fieldLink RJx4a65c 63 "java/util/ArrayList" "modCount" "I", Cond.sameField "java/util/ArrayList" "java/util/AbstractList" "modCount" "I", Cond.methodLink RJx4a65c 131 yJx4a65c_add_72be8, Cond.instanceMethod yJx4a65c_add_72be8, Cond.selects RJx4a65c yJx4a65c_add_72be8 yJx4a65c_add_72be8, Cond.code yJx4a65c_add_72be8 cJx4a65c_add_72be8 4 none, Cond.methodLink RJx4a65c 129 yJx4a65c_grow_d5877, Cond.instanceMethod yJx4a65c_grow_d5877, Cond.selects RJx4a65c yJx4a65c_grow_d5877 yJx4a65c_grow_d5877, Cond.code yJx4a65c_grow_d5877 cJx4a65c_grow_d5877 1 (some (.array (.object "java/lang/Object"))), Cond.methodLink RJx4a65c 69 yJx4a65c_grow_92f84, Cond.instanceMethod yJx4a65c_grow_92f84, Cond.selects RJx4a65c yJx4a65c_grow_92f84 yJx4a65c_grow_92f84, Cond.code yJx4a65c_grow_92f84 cJx4a65c_grow_92f84 4 (some (.array (.object "java/lang/Object"))), Cond.fieldLink RJx4a65c 39 "java/util/ArrayList" "DEFAULTCAPACITY_EMPTY_ELEMENTDATA" "[Ljava/lang/Object;", Cond.methodLink RJx4a65c 79 Lib.Math.max.name, Cond.static Lib.Math.max.name, Cond.code Lib.Math.max.name Lib.Math.max.code 2 (some .int), Cond.classLink RJx4a65c 7 "java/lang/Object", Cond.methodLink RJx4a65c 73 yJ8_newLength_cabcc, Cond.static yJ8_newLength_cabcc, Cond.initialized RJ8, Cond.code yJ8_newLength_cabcc cJ8_newLength_cabcc 4 (some .int), Cond.methodLink RJ8 194 Lib.Math.max.name]
def wsX2_difference_r7 : List Cond := [Cond.constant RJ8 200 (2147483639), Cond.methodLink RJ8 201 yJ8_hugeLength_7cf53, Cond.static yJ8_hugeLength_7cf53, Cond.code yJ8_hugeLength_7cf53 cJ8_hugeLength_7cf53 3 (some .int), Cond.methodLink RJx4a65c 66 yJ7_copyOf_1904c, Cond.static yJ7_copyOf_1904c, Cond.code yJ7_copyOf_1904c cJ7_copyOf_1904c 2 (some (.array (.object "java/lang/Object"))), Cond.methodLink RJ7 86 ⟨"java/lang/Object", "getClass", "()Ljava/lang/Class;"⟩, Cond.selects "[Ljava/lang/Object;" ⟨"java/lang/Object", "getClass", "()Ljava/lang/Class;"⟩ ⟨"java/lang/Object", "getClass", "()Ljava/lang/Class;"⟩, Cond.instanceMethod ⟨"java/lang/Object", "getClass", "()Ljava/lang/Class;"⟩, Cond.native ⟨"java/lang/Object", "getClass", "()Ljava/lang/Class;"⟩, Cond.methodLink RJ7 300 yJ7_copyOf_6403c, Cond.static yJ7_copyOf_6403c, Cond.code yJ7_copyOf_6403c cJ7_copyOf_6403c 4 (some (.array (.object "java/lang/Object"))), Cond.classLink RJ7 110 "[Ljava/lang/Object;", Cond.classLink RJ7 2 "java/lang/Object"]
def wsX2_difference : List Cond := .code yX2_difference cX2_difference 7 (some .int) :: ((wsX2_difference_r1 ++ (wsX2_difference_r2 ++ (wsX2_difference_r3 ++ (wsX2_difference_r4 ++ (wsX2_difference_r5 ++ (wsX2_difference_r6 ++ wsX2_difference_r7)))))) ++ wsX20 ++ wsX00 ++ wsJx4a65c0 ++ wsX10 ++ (vx_atS RX2 79 "java/lang/IndexOutOfBoundsException" ["java/lang/RuntimeException", "java/lang/Exception"]).filter goodWord ++ (vx_atS RX2 49 "java/lang/IllegalArgumentException" ["java/lang/RuntimeException", "java/lang/Exception"]).filter goodWord ++ (vx_atS RX2 56 "java/lang/IllegalStateException" ["java/lang/RuntimeException", "java/lang/Exception"]).filter goodWord)
def wsX2_patchOf_r1 : List Cond := [Cond.classLink RX2 75 "java/lang/IndexOutOfBoundsException", Cond.initialized "java/lang/IndexOutOfBoundsException", Cond.fieldLink RX2 24 "DeltaUpdater" "made" "Ljava/util/ArrayList;", Cond.classLink RX2 111 "DeltaUpdater$Patch", Cond.methodLink RX2 64 yJx4a65c_size_8abf5, Cond.instanceMethod yJx4a65c_size_8abf5, Cond.selects RJx4a65c yJx4a65c_size_8abf5 yJx4a65c_size_8abf5, Cond.initialized RJx4a65c, Cond.code yJx4a65c_size_8abf5 cJx4a65c_size_8abf5 1 (some .int), Cond.fieldLink RJx4a65c 48 "java/util/ArrayList" "size" "I", Cond.methodLink RX2 172 yJx4a65c_get_915e3, Cond.instanceMethod yJx4a65c_get_915e3, Cond.selects RJx4a65c yJx4a65c_get_915e3 yJx4a65c_get_915e3, Cond.code yJx4a65c_get_915e3 cJx4a65c_get_915e3 2 (some (.object "java/lang/Object")), Cond.methodLink RJx4a65c 118 yJ15_checkIndex_7cf53, Cond.static yJ15_checkIndex_7cf53, Cond.initialized RJ15, Cond.code yJ15_checkIndex_7cf53 cJ15_checkIndex_7cf53 2 (some .int), Cond.methodLink RJ15 105 yJ3_checkIndex_8e157, Cond.static yJ3_checkIndex_8e157, Cond.initialized RJ3, Cond.code yJ3_checkIndex_8e157 cJ3_checkIndex_8e157 3 (some .int), Cond.methodLink RJx4a65c 123 yJx4a65c_elementData_915e3, Cond.instanceMethod yJx4a65c_elementData_915e3]
def wsX2_patchOf_r2 : List Cond := [Cond.selects RJx4a65c yJx4a65c_elementData_915e3 yJx4a65c_elementData_915e3, Cond.code yJx4a65c_elementData_915e3 cJx4a65c_elementData_915e3 2 (some (.object "java/lang/Object")), Cond.fieldLink RJx4a65c 9 "java/util/ArrayList" "elementData" "[Ljava/lang/Object;"]
def wsX2_patchOf : List Cond := .code yX2_patchOf cX2_patchOf 2 (some (.object "DeltaUpdater$Patch")) :: ((wsX2_patchOf_r1 ++ wsX2_patchOf_r2) ++ wsX20 ++ wsJx4a65c0 ++ (vx_atS RX2 79 "java/lang/IndexOutOfBoundsException" ["java/lang/RuntimeException", "java/lang/Exception"]).filter goodWord)
def wsX2_originsThrough : List Cond := .code yX2_originsThrough cX2_originsThrough 5 (some (.array .int)) :: ([.arrayClass .int])
def wsX2_compose_r1 : List Cond := [Cond.classLink RX2 45 "java/lang/IllegalArgumentException", Cond.initialized "java/lang/IllegalArgumentException", Cond.fieldLink RX2 124 "DeltaUpdater$Patch" "goal" "I", Cond.fieldLink RX2 127 "DeltaUpdater$Patch" "base" "I", Cond.fieldLink RX2 132 "DeltaUpdater$Patch" "origins" "[I", Cond.fieldLink RX2 24 "DeltaUpdater" "made" "Ljava/util/ArrayList;", Cond.classLink RX2 111 RX0, Cond.instantiable RX0 7, Cond.initialized RX0, Cond.fieldLink RX2 139 "DeltaUpdater$Patch" "goalRow" "LDeltaUpdater$Row;", Cond.methodLink RX2 120 yX2_patchOf, Cond.instanceMethod yX2_patchOf, Cond.selects RX2 yX2_patchOf yX2_patchOf, Cond.initialized RX2, Cond.code yX2_patchOf cX2_patchOf 2 (some (.object "DeltaUpdater$Patch")), Cond.classLink RX2 75 "java/lang/IndexOutOfBoundsException", Cond.initialized "java/lang/IndexOutOfBoundsException", Cond.classLink RX2 111 "DeltaUpdater$Patch", Cond.methodLink RX2 64 yJx4a65c_size_8abf5, Cond.instanceMethod yJx4a65c_size_8abf5, Cond.selects RJx4a65c yJx4a65c_size_8abf5 yJx4a65c_size_8abf5, Cond.initialized RJx4a65c, Cond.code yJx4a65c_size_8abf5 cJx4a65c_size_8abf5 1 (some .int), Cond.fieldLink RJx4a65c 48 "java/util/ArrayList" "size" "I"]
def wsX2_compose_r2 : List Cond := [Cond.methodLink RX2 172 yJx4a65c_get_915e3, Cond.instanceMethod yJx4a65c_get_915e3, Cond.selects RJx4a65c yJx4a65c_get_915e3 yJx4a65c_get_915e3, Cond.code yJx4a65c_get_915e3 cJx4a65c_get_915e3 2 (some (.object "java/lang/Object")), Cond.methodLink RJx4a65c 118 yJ15_checkIndex_7cf53, Cond.static yJ15_checkIndex_7cf53, Cond.initialized RJ15, Cond.code yJ15_checkIndex_7cf53 cJ15_checkIndex_7cf53 2 (some .int), Cond.methodLink RJ15 105 yJ3_checkIndex_8e157, Cond.static yJ3_checkIndex_8e157, Cond.initialized RJ3, Cond.code yJ3_checkIndex_8e157 cJ3_checkIndex_8e157 3 (some .int), Cond.methodLink RJx4a65c 123 yJx4a65c_elementData_915e3, Cond.instanceMethod yJx4a65c_elementData_915e3, Cond.selects RJx4a65c yJx4a65c_elementData_915e3 yJx4a65c_elementData_915e3, Cond.code yJx4a65c_elementData_915e3 cJx4a65c_elementData_915e3 2 (some (.object "java/lang/Object")), Cond.fieldLink RJx4a65c 9 "java/util/ArrayList" "elementData" "[Ljava/lang/Object;", Cond.methodLink RX2 104 yX2_checkRoomForPatch, Cond.instanceMethod yX2_checkRoomForPatch, Cond.selects RX2 yX2_checkRoomForPatch yX2_checkRoomForPatch, Cond.code yX2_checkRoomForPatch cX2_checkRoomForPatch 1 none, Cond.classLink RX2 52 "java/lang/IllegalStateException", Cond.initialized "java/lang/IllegalStateException", Cond.methodLink RX2 135 yX2_originsThrough]
def wsX2_compose_r3 : List Cond := [Cond.static yX2_originsThrough, Cond.code yX2_originsThrough cX2_originsThrough 5 (some (.array .int)), Cond.arrayClass .int, Cond.methodLink RX2 117 yX0_init, Cond.instanceMethod yX0_init, Cond.code yX0_init cX0_init 5 none, Cond.methodLink RX0 3 objectInit, Cond.instanceMethod objectInit, Cond.code objectInit ⟨#[0xb1]⟩ 1 none, Cond.fieldLink RX0 9 "DeltaUpdater$Patch" "base" "I", Cond.fieldLink RX0 15 "DeltaUpdater$Patch" "goal" "I", Cond.fieldLink RX0 18 "DeltaUpdater$Patch" "goalRow" "LDeltaUpdater$Row;", Cond.fieldLink RX0 22 "DeltaUpdater$Patch" "origins" "[I", Cond.fieldLink RX0 30 "DeltaUpdater$Patch" "starts" "[I", Cond.fieldLink RX0 37 "DeltaUpdater$Patch" "literalBytes" "I", Cond.fieldLink RX0 44 "DeltaUpdater$Patch" "price" "I", Cond.methodLink RX0 26 yX0_startsIn, Cond.static yX0_startsIn, Cond.code yX0_startsIn cX0_startsIn 4 (some (.array .int)), Cond.methodLink RX0 47 yX0_startsAt, Cond.static yX0_startsAt, Cond.code yX0_startsAt cX0_startsAt 3 (some .boolean), Cond.methodLink RX0 51 yJ7_copyOf_59c91, Cond.static yJ7_copyOf_59c91]
def wsX2_compose_r4 : List Cond := [Cond.initialized RJ7, Cond.code yJ7_copyOf_59c91 cJ7_copyOf_59c91 3 (some (.array .int)), Cond.methodLink RJ7 316 ⟨"[I", "clone", "()Ljava/lang/Object;"⟩, Cond.sameMethod "[I" "java/lang/Object" "clone" "()Ljava/lang/Object;", Cond.native ⟨"java/lang/Object", "clone", "()Ljava/lang/Object;"⟩, Cond.instanceMethod ⟨"java/lang/Object", "clone", "()Ljava/lang/Object;"⟩, Cond.selects "[I" ⟨"[I", "clone", "()Ljava/lang/Object;"⟩ ⟨"java/lang/Object", "clone", "()Ljava/lang/Object;"⟩, Cond.classLink RJ7 317 "[I", Cond.methodLink RJ7 304 Lib.Math.min.name, Cond.static Lib.Math.min.name, Cond.initialized "java/lang/Math", Cond.code Lib.Math.min.name Lib.Math.min.code 2 (some .int), Cond.methodLink RJ7 150 arraycopyName, Cond.native arraycopyName, Cond.static arraycopyName, Cond.initialized "java/lang/System", Cond.methodLink RX0 33 yX0_literalsIn, Cond.static yX0_literalsIn, Cond.code yX0_literalsIn cX0_literalsIn 3 (some .int), Cond.methodLink RX0 40 yX0_priceOf, Cond.static yX0_priceOf, Cond.code yX0_priceOf cX0_priceOf 5 (some .int), Cond.methodLink RX2 60 yJx4a65c_add_9ea2d, Cond.instanceMethod yJx4a65c_add_9ea2d]
def wsX2_compose_r5 : List Cond := [Cond.selects RJx4a65c yJx4a65c_add_9ea2d yJx4a65c_add_9ea2d, Cond.code yJx4a65c_add_9ea2d cJx4a65c_add_9ea2d 2 (some .boolean), Cond.fieldLink RJx4a65c 63 "java/util/ArrayList" "modCount" "I", Cond.sameField "java/util/ArrayList" "java/util/AbstractList" "modCount" "I", Cond.methodLink RJx4a65c 131 yJx4a65c_add_72be8, Cond.instanceMethod yJx4a65c_add_72be8, Cond.selects RJx4a65c yJx4a65c_add_72be8 yJx4a65c_add_72be8, Cond.code yJx4a65c_add_72be8 cJx4a65c_add_72be8 4 none, Cond.methodLink RJx4a65c 129 yJx4a65c_grow_d5877, Cond.instanceMethod yJx4a65c_grow_d5877, Cond.selects RJx4a65c yJx4a65c_grow_d5877 yJx4a65c_grow_d5877, Cond.code yJx4a65c_grow_d5877 cJx4a65c_grow_d5877 1 (some (.array (.object "java/lang/Object"))), Cond.methodLink RJx4a65c 69 yJx4a65c_grow_92f84, Cond.instanceMethod yJx4a65c_grow_92f84, Cond.selects RJx4a65c yJx4a65c_grow_92f84 yJx4a65c_grow_92f84, Cond.code yJx4a65c_grow_92f84 cJx4a65c_grow_92f84 4 (some (.array (.object "java/lang/Object"))), Cond.fieldLink RJx4a65c 39 "java/util/ArrayList" "DEFAULTCAPACITY_EMPTY_ELEMENTDATA" "[Ljava/lang/Object;", Cond.methodLink RJx4a65c 79 Lib.Math.max.name, Cond.static Lib.Math.max.name, Cond.code Lib.Math.max.name Lib.Math.max.code 2 (some .int), Cond.classLink RJx4a65c 7 "java/lang/Object", Cond.methodLink RJx4a65c 73 yJ8_newLength_cabcc, Cond.static yJ8_newLength_cabcc, Cond.initialized RJ8]
def wsX2_compose_r6 : List Cond := [Cond.code yJ8_newLength_cabcc cJ8_newLength_cabcc 4 (some .int), Cond.methodLink RJ8 194 Lib.Math.max.name, Cond.constant RJ8 200 (2147483639), Cond.methodLink RJ8 201 yJ8_hugeLength_7cf53, Cond.static yJ8_hugeLength_7cf53, Cond.code yJ8_hugeLength_7cf53 cJ8_hugeLength_7cf53 3 (some .int), Cond.methodLink RJx4a65c 66 yJ7_copyOf_1904c, Cond.static yJ7_copyOf_1904c, Cond.code yJ7_copyOf_1904c cJ7_copyOf_1904c 2 (some (.array (.object "java/lang/Object"))), Cond.methodLink RJ7 86 ⟨"java/lang/Object", "getClass", "()Ljava/lang/Class;"⟩, Cond.selects "[Ljava/lang/Object;" ⟨"java/lang/Object", "getClass", "()Ljava/lang/Class;"⟩ ⟨"java/lang/Object", "getClass", "()Ljava/lang/Class;"⟩, Cond.instanceMethod ⟨"java/lang/Object", "getClass", "()Ljava/lang/Class;"⟩, Cond.native ⟨"java/lang/Object", "getClass", "()Ljava/lang/Class;"⟩, Cond.methodLink RJ7 300 yJ7_copyOf_6403c, Cond.static yJ7_copyOf_6403c, Cond.code yJ7_copyOf_6403c cJ7_copyOf_6403c 4 (some (.array (.object "java/lang/Object"))), Cond.classLink RJ7 110 "[Ljava/lang/Object;", Cond.classLink RJ7 2 "java/lang/Object"]
def wsX2_compose : List Cond := .code yX2_compose cX2_compose 6 (some .int) :: ((wsX2_compose_r1 ++ (wsX2_compose_r2 ++ (wsX2_compose_r3 ++ (wsX2_compose_r4 ++ (wsX2_compose_r5 ++ wsX2_compose_r6))))) ++ wsX00 ++ wsX20 ++ wsJx4a65c0 ++ (vx_atS RX2 49 "java/lang/IllegalArgumentException" ["java/lang/RuntimeException", "java/lang/Exception"]).filter goodWord ++ (vx_atS RX2 79 "java/lang/IndexOutOfBoundsException" ["java/lang/RuntimeException", "java/lang/Exception"]).filter goodWord ++ (vx_atS RX2 56 "java/lang/IllegalStateException" ["java/lang/RuntimeException", "java/lang/Exception"]).filter goodWord)
def wsX2_patches : List Cond := .code yX2_patches cX2_patches 1 (some .int) :: ([.fieldLink RX2 24 "DeltaUpdater" "made" "Ljava/util/ArrayList;", .methodLink RX2 64 yJx4a65c_size_8abf5, .instanceMethod yJx4a65c_size_8abf5, .selects RJx4a65c yJx4a65c_size_8abf5 yJx4a65c_size_8abf5, .initialized RJx4a65c, .code yJx4a65c_size_8abf5 cJx4a65c_size_8abf5 1 (some .int), .fieldLink RJx4a65c 48 "java/util/ArrayList" "size" "I"] ++ wsX20 ++ wsJx4a65c0)
def wsX2_instructions_r1 : List Cond := [Cond.fieldLink RX2 142 "DeltaUpdater$Patch" "starts" "[I", Cond.methodLink RX2 120 yX2_patchOf, Cond.instanceMethod yX2_patchOf, Cond.selects RX2 yX2_patchOf yX2_patchOf, Cond.initialized RX2, Cond.code yX2_patchOf cX2_patchOf 2 (some (.object "DeltaUpdater$Patch")), Cond.classLink RX2 75 "java/lang/IndexOutOfBoundsException", Cond.initialized "java/lang/IndexOutOfBoundsException", Cond.fieldLink RX2 24 "DeltaUpdater" "made" "Ljava/util/ArrayList;", Cond.classLink RX2 111 "DeltaUpdater$Patch", Cond.methodLink RX2 64 yJx4a65c_size_8abf5, Cond.instanceMethod yJx4a65c_size_8abf5, Cond.selects RJx4a65c yJx4a65c_size_8abf5 yJx4a65c_size_8abf5, Cond.initialized RJx4a65c, Cond.code yJx4a65c_size_8abf5 cJx4a65c_size_8abf5 1 (some .int), Cond.fieldLink RJx4a65c 48 "java/util/ArrayList" "size" "I", Cond.methodLink RX2 172 yJx4a65c_get_915e3, Cond.instanceMethod yJx4a65c_get_915e3, Cond.selects RJx4a65c yJx4a65c_get_915e3 yJx4a65c_get_915e3, Cond.code yJx4a65c_get_915e3 cJx4a65c_get_915e3 2 (some (.object "java/lang/Object")), Cond.methodLink RJx4a65c 118 yJ15_checkIndex_7cf53, Cond.static yJ15_checkIndex_7cf53, Cond.initialized RJ15, Cond.code yJ15_checkIndex_7cf53 cJ15_checkIndex_7cf53 2 (some .int)]
def wsX2_instructions_r2 : List Cond := [Cond.methodLink RJ15 105 yJ3_checkIndex_8e157, Cond.static yJ3_checkIndex_8e157, Cond.initialized RJ3, Cond.code yJ3_checkIndex_8e157 cJ3_checkIndex_8e157 3 (some .int), Cond.methodLink RJx4a65c 123 yJx4a65c_elementData_915e3, Cond.instanceMethod yJx4a65c_elementData_915e3, Cond.selects RJx4a65c yJx4a65c_elementData_915e3 yJx4a65c_elementData_915e3, Cond.code yJx4a65c_elementData_915e3 cJx4a65c_elementData_915e3 2 (some (.object "java/lang/Object")), Cond.fieldLink RJx4a65c 9 "java/util/ArrayList" "elementData" "[Ljava/lang/Object;"]
def wsX2_instructions : List Cond := .code yX2_instructions cX2_instructions 2 (some .int) :: ((wsX2_instructions_r1 ++ wsX2_instructions_r2) ++ wsX00 ++ wsX20 ++ wsJx4a65c0 ++ (vx_atS RX2 79 "java/lang/IndexOutOfBoundsException" ["java/lang/RuntimeException", "java/lang/Exception"]).filter goodWord)
def wsX2_instruction_r1 : List Cond := [Cond.classLink RX2 75 "java/lang/IndexOutOfBoundsException", Cond.initialized "java/lang/IndexOutOfBoundsException", Cond.fieldLink RX2 142 "DeltaUpdater$Patch" "starts" "[I", Cond.methodLink RX2 120 yX2_patchOf, Cond.instanceMethod yX2_patchOf, Cond.selects RX2 yX2_patchOf yX2_patchOf, Cond.initialized RX2, Cond.code yX2_patchOf cX2_patchOf 2 (some (.object "DeltaUpdater$Patch")), Cond.fieldLink RX2 24 "DeltaUpdater" "made" "Ljava/util/ArrayList;", Cond.classLink RX2 111 "DeltaUpdater$Patch", Cond.methodLink RX2 64 yJx4a65c_size_8abf5, Cond.instanceMethod yJx4a65c_size_8abf5, Cond.selects RJx4a65c yJx4a65c_size_8abf5 yJx4a65c_size_8abf5, Cond.initialized RJx4a65c, Cond.code yJx4a65c_size_8abf5 cJx4a65c_size_8abf5 1 (some .int), Cond.fieldLink RJx4a65c 48 "java/util/ArrayList" "size" "I", Cond.methodLink RX2 172 yJx4a65c_get_915e3, Cond.instanceMethod yJx4a65c_get_915e3, Cond.selects RJx4a65c yJx4a65c_get_915e3 yJx4a65c_get_915e3, Cond.code yJx4a65c_get_915e3 cJx4a65c_get_915e3 2 (some (.object "java/lang/Object")), Cond.methodLink RJx4a65c 118 yJ15_checkIndex_7cf53, Cond.static yJ15_checkIndex_7cf53, Cond.initialized RJ15, Cond.code yJ15_checkIndex_7cf53 cJ15_checkIndex_7cf53 2 (some .int)]
def wsX2_instruction_r2 : List Cond := [Cond.methodLink RJ15 105 yJ3_checkIndex_8e157, Cond.static yJ3_checkIndex_8e157, Cond.initialized RJ3, Cond.code yJ3_checkIndex_8e157 cJ3_checkIndex_8e157 3 (some .int), Cond.methodLink RJx4a65c 123 yJx4a65c_elementData_915e3, Cond.instanceMethod yJx4a65c_elementData_915e3, Cond.selects RJx4a65c yJx4a65c_elementData_915e3 yJx4a65c_elementData_915e3, Cond.code yJx4a65c_elementData_915e3 cJx4a65c_elementData_915e3 2 (some (.object "java/lang/Object")), Cond.fieldLink RJx4a65c 9 "java/util/ArrayList" "elementData" "[Ljava/lang/Object;", Cond.methodLink RX2 149 yX0_tell, Cond.instanceMethod yX0_tell, Cond.selects RX0 yX0_tell yX0_tell, Cond.initialized RX0, Cond.code yX0_tell cX0_tell 6 (some .int), Cond.fieldLink RX0 30 "DeltaUpdater$Patch" "starts" "[I", Cond.fieldLink RX0 22 "DeltaUpdater$Patch" "origins" "[I", Cond.fieldLink RX0 18 "DeltaUpdater$Patch" "goalRow" "LDeltaUpdater$Row;", Cond.methodLink RX0 57 yX1_sumOf, Cond.instanceMethod yX1_sumOf, Cond.selects RX1 yX1_sumOf yX1_sumOf, Cond.initialized RX1, Cond.code yX1_sumOf cX1_sumOf 6 (some .int), Cond.fieldLink RX1 13 "DeltaUpdater$Row" "bytes" "[I"]
def wsX2_instruction : List Cond := .code yX2_instruction cX2_instruction 5 (some .int) :: ((wsX2_instruction_r1 ++ wsX2_instruction_r2) ++ wsX00 ++ wsX20 ++ wsJx4a65c0 ++ wsX10 ++ (vx_atS RX2 79 "java/lang/IndexOutOfBoundsException" ["java/lang/RuntimeException", "java/lang/Exception"]).filter goodWord)
def wsX2_cost_r1 : List Cond := [Cond.fieldLink RX2 152 "DeltaUpdater$Patch" "price" "I", Cond.methodLink RX2 120 yX2_patchOf, Cond.instanceMethod yX2_patchOf, Cond.selects RX2 yX2_patchOf yX2_patchOf, Cond.initialized RX2, Cond.code yX2_patchOf cX2_patchOf 2 (some (.object "DeltaUpdater$Patch")), Cond.classLink RX2 75 "java/lang/IndexOutOfBoundsException", Cond.initialized "java/lang/IndexOutOfBoundsException", Cond.fieldLink RX2 24 "DeltaUpdater" "made" "Ljava/util/ArrayList;", Cond.classLink RX2 111 "DeltaUpdater$Patch", Cond.methodLink RX2 64 yJx4a65c_size_8abf5, Cond.instanceMethod yJx4a65c_size_8abf5, Cond.selects RJx4a65c yJx4a65c_size_8abf5 yJx4a65c_size_8abf5, Cond.initialized RJx4a65c, Cond.code yJx4a65c_size_8abf5 cJx4a65c_size_8abf5 1 (some .int), Cond.fieldLink RJx4a65c 48 "java/util/ArrayList" "size" "I", Cond.methodLink RX2 172 yJx4a65c_get_915e3, Cond.instanceMethod yJx4a65c_get_915e3, Cond.selects RJx4a65c yJx4a65c_get_915e3 yJx4a65c_get_915e3, Cond.code yJx4a65c_get_915e3 cJx4a65c_get_915e3 2 (some (.object "java/lang/Object")), Cond.methodLink RJx4a65c 118 yJ15_checkIndex_7cf53, Cond.static yJ15_checkIndex_7cf53, Cond.initialized RJ15, Cond.code yJ15_checkIndex_7cf53 cJ15_checkIndex_7cf53 2 (some .int)]
def wsX2_cost_r2 : List Cond := [Cond.methodLink RJ15 105 yJ3_checkIndex_8e157, Cond.static yJ3_checkIndex_8e157, Cond.initialized RJ3, Cond.code yJ3_checkIndex_8e157 cJ3_checkIndex_8e157 3 (some .int), Cond.methodLink RJx4a65c 123 yJx4a65c_elementData_915e3, Cond.instanceMethod yJx4a65c_elementData_915e3, Cond.selects RJx4a65c yJx4a65c_elementData_915e3 yJx4a65c_elementData_915e3, Cond.code yJx4a65c_elementData_915e3 cJx4a65c_elementData_915e3 2 (some (.object "java/lang/Object")), Cond.fieldLink RJx4a65c 9 "java/util/ArrayList" "elementData" "[Ljava/lang/Object;"]
def wsX2_cost : List Cond := .code yX2_cost cX2_cost 2 (some .int) :: ((wsX2_cost_r1 ++ wsX2_cost_r2) ++ wsX00 ++ wsX20 ++ wsJx4a65c0 ++ (vx_atS RX2 79 "java/lang/IndexOutOfBoundsException" ["java/lang/RuntimeException", "java/lang/Exception"]).filter goodWord)
def wsX2_newness_r1 : List Cond := [Cond.fieldLink RX2 132 "DeltaUpdater$Patch" "origins" "[I", Cond.fieldLink RX2 155 "DeltaUpdater$Patch" "literalBytes" "I", Cond.methodLink RX2 120 yX2_patchOf, Cond.instanceMethod yX2_patchOf, Cond.selects RX2 yX2_patchOf yX2_patchOf, Cond.initialized RX2, Cond.code yX2_patchOf cX2_patchOf 2 (some (.object "DeltaUpdater$Patch")), Cond.classLink RX2 75 "java/lang/IndexOutOfBoundsException", Cond.initialized "java/lang/IndexOutOfBoundsException", Cond.fieldLink RX2 24 "DeltaUpdater" "made" "Ljava/util/ArrayList;", Cond.classLink RX2 111 "DeltaUpdater$Patch", Cond.methodLink RX2 64 yJx4a65c_size_8abf5, Cond.instanceMethod yJx4a65c_size_8abf5, Cond.selects RJx4a65c yJx4a65c_size_8abf5 yJx4a65c_size_8abf5, Cond.initialized RJx4a65c, Cond.code yJx4a65c_size_8abf5 cJx4a65c_size_8abf5 1 (some .int), Cond.fieldLink RJx4a65c 48 "java/util/ArrayList" "size" "I", Cond.methodLink RX2 172 yJx4a65c_get_915e3, Cond.instanceMethod yJx4a65c_get_915e3, Cond.selects RJx4a65c yJx4a65c_get_915e3 yJx4a65c_get_915e3, Cond.code yJx4a65c_get_915e3 cJx4a65c_get_915e3 2 (some (.object "java/lang/Object")), Cond.methodLink RJx4a65c 118 yJ15_checkIndex_7cf53, Cond.static yJ15_checkIndex_7cf53, Cond.initialized RJ15]
def wsX2_newness_r2 : List Cond := [Cond.code yJ15_checkIndex_7cf53 cJ15_checkIndex_7cf53 2 (some .int), Cond.methodLink RJ15 105 yJ3_checkIndex_8e157, Cond.static yJ3_checkIndex_8e157, Cond.initialized RJ3, Cond.code yJ3_checkIndex_8e157 cJ3_checkIndex_8e157 3 (some .int), Cond.methodLink RJx4a65c 123 yJx4a65c_elementData_915e3, Cond.instanceMethod yJx4a65c_elementData_915e3, Cond.selects RJx4a65c yJx4a65c_elementData_915e3 yJx4a65c_elementData_915e3, Cond.code yJx4a65c_elementData_915e3 cJx4a65c_elementData_915e3 2 (some (.object "java/lang/Object")), Cond.fieldLink RJx4a65c 9 "java/util/ArrayList" "elementData" "[Ljava/lang/Object;"]
def wsX2_newness : List Cond := .code yX2_newness cX2_newness 4 (some .double) :: ((wsX2_newness_r1 ++ wsX2_newness_r2) ++ wsX00 ++ wsX20 ++ wsJx4a65c0 ++ (vx_atS RX2 79 "java/lang/IndexOutOfBoundsException" ["java/lang/RuntimeException", "java/lang/Exception"]).filter goodWord)
def wsX2_apply_r1 : List Cond := [Cond.classLink RX2 45 "java/lang/IllegalArgumentException", Cond.initialized "java/lang/IllegalArgumentException", Cond.fieldLink RX2 127 "DeltaUpdater$Patch" "base" "I", Cond.fieldLink RX2 20 "DeltaUpdater" "stored" "Ljava/util/ArrayList;", Cond.fieldLink RX2 139 "DeltaUpdater$Patch" "goalRow" "LDeltaUpdater$Row;", Cond.methodLink RX2 120 yX2_patchOf, Cond.instanceMethod yX2_patchOf, Cond.selects RX2 yX2_patchOf yX2_patchOf, Cond.initialized RX2, Cond.code yX2_patchOf cX2_patchOf 2 (some (.object "DeltaUpdater$Patch")), Cond.classLink RX2 75 "java/lang/IndexOutOfBoundsException", Cond.initialized "java/lang/IndexOutOfBoundsException", Cond.fieldLink RX2 24 "DeltaUpdater" "made" "Ljava/util/ArrayList;", Cond.classLink RX2 111 "DeltaUpdater$Patch", Cond.methodLink RX2 64 yJx4a65c_size_8abf5, Cond.instanceMethod yJx4a65c_size_8abf5, Cond.selects RJx4a65c yJx4a65c_size_8abf5 yJx4a65c_size_8abf5, Cond.initialized RJx4a65c, Cond.code yJx4a65c_size_8abf5 cJx4a65c_size_8abf5 1 (some .int), Cond.fieldLink RJx4a65c 48 "java/util/ArrayList" "size" "I", Cond.methodLink RX2 172 yJx4a65c_get_915e3, Cond.instanceMethod yJx4a65c_get_915e3, Cond.selects RJx4a65c yJx4a65c_get_915e3 yJx4a65c_get_915e3, Cond.code yJx4a65c_get_915e3 cJx4a65c_get_915e3 2 (some (.object "java/lang/Object"))]
def wsX2_apply_r2 : List Cond := [Cond.methodLink RJx4a65c 118 yJ15_checkIndex_7cf53, Cond.static yJ15_checkIndex_7cf53, Cond.initialized RJ15, Cond.code yJ15_checkIndex_7cf53 cJ15_checkIndex_7cf53 2 (some .int), Cond.methodLink RJ15 105 yJ3_checkIndex_8e157, Cond.static yJ3_checkIndex_8e157, Cond.initialized RJ3, Cond.code yJ3_checkIndex_8e157 cJ3_checkIndex_8e157 3 (some .int), Cond.methodLink RJx4a65c 123 yJx4a65c_elementData_915e3, Cond.instanceMethod yJx4a65c_elementData_915e3, Cond.selects RJx4a65c yJx4a65c_elementData_915e3 yJx4a65c_elementData_915e3, Cond.code yJx4a65c_elementData_915e3 cJx4a65c_elementData_915e3 2 (some (.object "java/lang/Object")), Cond.fieldLink RJx4a65c 9 "java/util/ArrayList" "elementData" "[Ljava/lang/Object;", Cond.methodLink RX2 68 yX2_rowOf, Cond.instanceMethod yX2_rowOf, Cond.selects RX2 yX2_rowOf yX2_rowOf, Cond.code yX2_rowOf cX2_rowOf 2 (some (.object "DeltaUpdater$Row")), Cond.classLink RX2 27 "DeltaUpdater$Row", Cond.methodLink RX2 80 yX1_hasBytesOf, Cond.instanceMethod yX1_hasBytesOf, Cond.selects RX1 yX1_hasBytesOf yX1_hasBytesOf, Cond.initialized RX1, Cond.code yX1_hasBytesOf cX1_hasBytesOf 2 (some .boolean), Cond.fieldLink RX1 13 "DeltaUpdater$Row" "bytes" "[I"]
def wsX2_apply_r3 : List Cond := [Cond.methodLink RX1 19 yX1_hasStretch, Cond.instanceMethod yX1_hasStretch, Cond.selects RX1 yX1_hasStretch yX1_hasStretch, Cond.code yX1_hasStretch cX1_hasStretch 6 (some .boolean), Cond.methodLink RX2 57 yX2_checkRoomForVersion, Cond.instanceMethod yX2_checkRoomForVersion, Cond.selects RX2 yX2_checkRoomForVersion yX2_checkRoomForVersion, Cond.code yX2_checkRoomForVersion cX2_checkRoomForVersion 1 none, Cond.classLink RX2 52 "java/lang/IllegalStateException", Cond.initialized "java/lang/IllegalStateException", Cond.methodLink RX2 60 yJx4a65c_add_9ea2d, Cond.instanceMethod yJx4a65c_add_9ea2d, Cond.selects RJx4a65c yJx4a65c_add_9ea2d yJx4a65c_add_9ea2d, Cond.code yJx4a65c_add_9ea2d cJx4a65c_add_9ea2d 2 (some .boolean), Cond.fieldLink RJx4a65c 63 "java/util/ArrayList" "modCount" "I", Cond.sameField "java/util/ArrayList" "java/util/AbstractList" "modCount" "I", Cond.methodLink RJx4a65c 131 yJx4a65c_add_72be8, Cond.instanceMethod yJx4a65c_add_72be8, Cond.selects RJx4a65c yJx4a65c_add_72be8 yJx4a65c_add_72be8, Cond.code yJx4a65c_add_72be8 cJx4a65c_add_72be8 4 none, Cond.methodLink RJx4a65c 129 yJx4a65c_grow_d5877, Cond.instanceMethod yJx4a65c_grow_d5877, Cond.selects RJx4a65c yJx4a65c_grow_d5877 yJx4a65c_grow_d5877, Cond.code yJx4a65c_grow_d5877 cJx4a65c_grow_d5877 1 (some (.array (.object "java/lang/Object")))]
def wsX2_apply_r4 : List Cond := [Cond.methodLink RJx4a65c 69 yJx4a65c_grow_92f84, Cond.instanceMethod yJx4a65c_grow_92f84, Cond.selects RJx4a65c yJx4a65c_grow_92f84 yJx4a65c_grow_92f84, Cond.code yJx4a65c_grow_92f84 cJx4a65c_grow_92f84 4 (some (.array (.object "java/lang/Object"))), Cond.fieldLink RJx4a65c 39 "java/util/ArrayList" "DEFAULTCAPACITY_EMPTY_ELEMENTDATA" "[Ljava/lang/Object;", Cond.methodLink RJx4a65c 79 Lib.Math.max.name, Cond.static Lib.Math.max.name, Cond.initialized "java/lang/Math", Cond.code Lib.Math.max.name Lib.Math.max.code 2 (some .int), Cond.classLink RJx4a65c 7 "java/lang/Object", Cond.methodLink RJx4a65c 73 yJ8_newLength_cabcc, Cond.static yJ8_newLength_cabcc, Cond.initialized RJ8, Cond.code yJ8_newLength_cabcc cJ8_newLength_cabcc 4 (some .int), Cond.methodLink RJ8 194 Lib.Math.max.name, Cond.constant RJ8 200 (2147483639), Cond.methodLink RJ8 201 yJ8_hugeLength_7cf53, Cond.static yJ8_hugeLength_7cf53, Cond.code yJ8_hugeLength_7cf53 cJ8_hugeLength_7cf53 3 (some .int), Cond.methodLink RJx4a65c 66 yJ7_copyOf_1904c, Cond.static yJ7_copyOf_1904c, Cond.initialized RJ7, Cond.code yJ7_copyOf_1904c cJ7_copyOf_1904c 2 (some (.array (.object "java/lang/Object"))), Cond.methodLink RJ7 86 ⟨"java/lang/Object", "getClass", "()Ljava/lang/Class;"⟩]
def wsX2_apply_r5 : List Cond := [Cond.selects "[Ljava/lang/Object;" ⟨"java/lang/Object", "getClass", "()Ljava/lang/Class;"⟩ ⟨"java/lang/Object", "getClass", "()Ljava/lang/Class;"⟩, Cond.instanceMethod ⟨"java/lang/Object", "getClass", "()Ljava/lang/Class;"⟩, Cond.native ⟨"java/lang/Object", "getClass", "()Ljava/lang/Class;"⟩, Cond.methodLink RJ7 300 yJ7_copyOf_6403c, Cond.static yJ7_copyOf_6403c, Cond.code yJ7_copyOf_6403c cJ7_copyOf_6403c 4 (some (.array (.object "java/lang/Object"))), Cond.classLink RJ7 110 "[Ljava/lang/Object;", Cond.classLink RJ7 2 "java/lang/Object", Cond.methodLink RJ7 304 Lib.Math.min.name, Cond.static Lib.Math.min.name, Cond.code Lib.Math.min.name Lib.Math.min.code 2 (some .int), Cond.methodLink RJ7 150 arraycopyName, Cond.native arraycopyName, Cond.static arraycopyName, Cond.initialized "java/lang/System"]
def wsX2_apply : List Cond := .code yX2_apply cX2_apply 5 (some .int) :: ((wsX2_apply_r1 ++ (wsX2_apply_r2 ++ (wsX2_apply_r3 ++ (wsX2_apply_r4 ++ wsX2_apply_r5)))) ++ wsX00 ++ wsX20 ++ wsJx4a65c0 ++ wsX10 ++ (vx_atS RX2 49 "java/lang/IllegalArgumentException" ["java/lang/RuntimeException", "java/lang/Exception"]).filter goodWord ++ (vx_atS RX2 79 "java/lang/IndexOutOfBoundsException" ["java/lang/RuntimeException", "java/lang/Exception"]).filter goodWord ++ (vx_atS RX2 56 "java/lang/IllegalStateException" ["java/lang/RuntimeException", "java/lang/Exception"]).filter goodWord)
def wsJ7_fill_53178 : List Cond := .code yJ7_fill_53178 cJ7_fill_53178 4 none :: ([])
def wsX2_reachBy : List Cond := .code yX2_reachBy cX2_reachBy 5 none :: ([.fieldLink RX2 42 "DeltaUpdater" "reached" "[I", .fieldLink RX2 127 "DeltaUpdater$Patch" "base" "I", .fieldLink RX2 124 "DeltaUpdater$Patch" "goal" "I"] ++ wsX20 ++ wsX00)
def wsX2_leastWay_r1 : List Cond := [Cond.fieldLink RX2 42 "DeltaUpdater" "reached" "[I", Cond.fieldLink RX2 24 "DeltaUpdater" "made" "Ljava/util/ArrayList;", Cond.classLink RX2 111 "DeltaUpdater$Patch", Cond.fieldLink RX2 152 "DeltaUpdater$Patch" "price" "I", Cond.methodLink RX2 113 yX2_firstLike, Cond.instanceMethod yX2_firstLike, Cond.selects RX2 yX2_firstLike yX2_firstLike, Cond.initialized RX2, Cond.code yX2_firstLike cX2_firstLike 4 (some .int), Cond.methodLink RX2 68 yX2_rowOf, Cond.instanceMethod yX2_rowOf, Cond.selects RX2 yX2_rowOf yX2_rowOf, Cond.code yX2_rowOf cX2_rowOf 2 (some (.object "DeltaUpdater$Row")), Cond.classLink RX2 75 "java/lang/IndexOutOfBoundsException", Cond.initialized "java/lang/IndexOutOfBoundsException", Cond.fieldLink RX2 20 "DeltaUpdater" "stored" "Ljava/util/ArrayList;", Cond.classLink RX2 27 "DeltaUpdater$Row", Cond.methodLink RX2 64 yJx4a65c_size_8abf5, Cond.instanceMethod yJx4a65c_size_8abf5, Cond.selects RJx4a65c yJx4a65c_size_8abf5 yJx4a65c_size_8abf5, Cond.initialized RJx4a65c, Cond.code yJx4a65c_size_8abf5 cJx4a65c_size_8abf5 1 (some .int), Cond.fieldLink RJx4a65c 48 "java/util/ArrayList" "size" "I", Cond.methodLink RX2 172 yJx4a65c_get_915e3]
def wsX2_leastWay_r2 : List Cond := [Cond.instanceMethod yJx4a65c_get_915e3, Cond.selects RJx4a65c yJx4a65c_get_915e3 yJx4a65c_get_915e3, Cond.code yJx4a65c_get_915e3 cJx4a65c_get_915e3 2 (some (.object "java/lang/Object")), Cond.methodLink RJx4a65c 118 yJ15_checkIndex_7cf53, Cond.static yJ15_checkIndex_7cf53, Cond.initialized RJ15, Cond.code yJ15_checkIndex_7cf53 cJ15_checkIndex_7cf53 2 (some .int), Cond.methodLink RJ15 105 yJ3_checkIndex_8e157, Cond.static yJ3_checkIndex_8e157, Cond.initialized RJ3, Cond.code yJ3_checkIndex_8e157 cJ3_checkIndex_8e157 3 (some .int), Cond.methodLink RJx4a65c 123 yJx4a65c_elementData_915e3, Cond.instanceMethod yJx4a65c_elementData_915e3, Cond.selects RJx4a65c yJx4a65c_elementData_915e3 yJx4a65c_elementData_915e3, Cond.code yJx4a65c_elementData_915e3 cJx4a65c_elementData_915e3 2 (some (.object "java/lang/Object")), Cond.fieldLink RJx4a65c 9 "java/util/ArrayList" "elementData" "[Ljava/lang/Object;", Cond.methodLink RX2 80 yX1_hasBytesOf, Cond.instanceMethod yX1_hasBytesOf, Cond.selects RX1 yX1_hasBytesOf yX1_hasBytesOf, Cond.initialized RX1, Cond.code yX1_hasBytesOf cX1_hasBytesOf 2 (some .boolean), Cond.fieldLink RX1 13 "DeltaUpdater$Row" "bytes" "[I", Cond.methodLink RX1 19 yX1_hasStretch, Cond.instanceMethod yX1_hasStretch]
def wsX2_leastWay_r3 : List Cond := [Cond.selects RX1 yX1_hasStretch yX1_hasStretch, Cond.code yX1_hasStretch cX1_hasStretch 6 (some .boolean), Cond.methodLink RX2 205 yJ7_fill_53178, Cond.static yJ7_fill_53178, Cond.initialized RJ7, Cond.code yJ7_fill_53178 cJ7_fill_53178 4 none, Cond.methodLink RX2 210 yX2_reachBy, Cond.instanceMethod yX2_reachBy, Cond.selects RX2 yX2_reachBy yX2_reachBy, Cond.code yX2_reachBy cX2_reachBy 5 none, Cond.fieldLink RX2 127 "DeltaUpdater$Patch" "base" "I", Cond.fieldLink RX2 124 "DeltaUpdater$Patch" "goal" "I"]
def wsX2_leastWay : List Cond := .code yX2_leastWay cX2_leastWay 9 (some .int) :: ((wsX2_leastWay_r1 ++ (wsX2_leastWay_r2 ++ wsX2_leastWay_r3)) ++ wsX20 ++ wsX00 ++ wsJx4a65c0 ++ wsX10 ++ (vx_atS RX2 79 "java/lang/IndexOutOfBoundsException" ["java/lang/RuntimeException", "java/lang/Exception"]).filter goodWord)
def wsX2_steps_r1 : List Cond := [Cond.methodLink RX2 160 yX2_leastWay, Cond.instanceMethod yX2_leastWay, Cond.selects RX2 yX2_leastWay yX2_leastWay, Cond.initialized RX2, Cond.code yX2_leastWay cX2_leastWay 9 (some .int), Cond.fieldLink RX2 42 "DeltaUpdater" "reached" "[I", Cond.fieldLink RX2 24 "DeltaUpdater" "made" "Ljava/util/ArrayList;", Cond.classLink RX2 111 "DeltaUpdater$Patch", Cond.fieldLink RX2 152 "DeltaUpdater$Patch" "price" "I", Cond.methodLink RX2 113 yX2_firstLike, Cond.instanceMethod yX2_firstLike, Cond.selects RX2 yX2_firstLike yX2_firstLike, Cond.code yX2_firstLike cX2_firstLike 4 (some .int), Cond.methodLink RX2 68 yX2_rowOf, Cond.instanceMethod yX2_rowOf, Cond.selects RX2 yX2_rowOf yX2_rowOf, Cond.code yX2_rowOf cX2_rowOf 2 (some (.object "DeltaUpdater$Row")), Cond.classLink RX2 75 "java/lang/IndexOutOfBoundsException", Cond.initialized "java/lang/IndexOutOfBoundsException", Cond.fieldLink RX2 20 "DeltaUpdater" "stored" "Ljava/util/ArrayList;", Cond.classLink RX2 27 "DeltaUpdater$Row", Cond.methodLink RX2 64 yJx4a65c_size_8abf5, Cond.instanceMethod yJx4a65c_size_8abf5, Cond.selects RJx4a65c yJx4a65c_size_8abf5 yJx4a65c_size_8abf5]
def wsX2_steps_r2 : List Cond := [Cond.initialized RJx4a65c, Cond.code yJx4a65c_size_8abf5 cJx4a65c_size_8abf5 1 (some .int), Cond.fieldLink RJx4a65c 48 "java/util/ArrayList" "size" "I", Cond.methodLink RX2 172 yJx4a65c_get_915e3, Cond.instanceMethod yJx4a65c_get_915e3, Cond.selects RJx4a65c yJx4a65c_get_915e3 yJx4a65c_get_915e3, Cond.code yJx4a65c_get_915e3 cJx4a65c_get_915e3 2 (some (.object "java/lang/Object")), Cond.methodLink RJx4a65c 118 yJ15_checkIndex_7cf53, Cond.static yJ15_checkIndex_7cf53, Cond.initialized RJ15, Cond.code yJ15_checkIndex_7cf53 cJ15_checkIndex_7cf53 2 (some .int), Cond.methodLink RJ15 105 yJ3_checkIndex_8e157, Cond.static yJ3_checkIndex_8e157, Cond.initialized RJ3, Cond.code yJ3_checkIndex_8e157 cJ3_checkIndex_8e157 3 (some .int), Cond.methodLink RJx4a65c 123 yJx4a65c_elementData_915e3, Cond.instanceMethod yJx4a65c_elementData_915e3, Cond.selects RJx4a65c yJx4a65c_elementData_915e3 yJx4a65c_elementData_915e3, Cond.code yJx4a65c_elementData_915e3 cJx4a65c_elementData_915e3 2 (some (.object "java/lang/Object")), Cond.fieldLink RJx4a65c 9 "java/util/ArrayList" "elementData" "[Ljava/lang/Object;", Cond.methodLink RX2 80 yX1_hasBytesOf, Cond.instanceMethod yX1_hasBytesOf, Cond.selects RX1 yX1_hasBytesOf yX1_hasBytesOf, Cond.initialized RX1]
def wsX2_steps_r3 : List Cond := [Cond.code yX1_hasBytesOf cX1_hasBytesOf 2 (some .boolean), Cond.fieldLink RX1 13 "DeltaUpdater$Row" "bytes" "[I", Cond.methodLink RX1 19 yX1_hasStretch, Cond.instanceMethod yX1_hasStretch, Cond.selects RX1 yX1_hasStretch yX1_hasStretch, Cond.code yX1_hasStretch cX1_hasStretch 6 (some .boolean), Cond.methodLink RX2 205 yJ7_fill_53178, Cond.static yJ7_fill_53178, Cond.initialized RJ7, Cond.code yJ7_fill_53178 cJ7_fill_53178 4 none, Cond.methodLink RX2 210 yX2_reachBy, Cond.instanceMethod yX2_reachBy, Cond.selects RX2 yX2_reachBy yX2_reachBy, Cond.code yX2_reachBy cX2_reachBy 5 none, Cond.fieldLink RX2 127 "DeltaUpdater$Patch" "base" "I", Cond.fieldLink RX2 124 "DeltaUpdater$Patch" "goal" "I"]
def wsX2_steps : List Cond := .code yX2_steps cX2_steps 3 (some .int) :: ((wsX2_steps_r1 ++ (wsX2_steps_r2 ++ wsX2_steps_r3)) ++ wsX20 ++ wsX00 ++ wsJx4a65c0 ++ wsX10 ++ (vx_atS RX2 79 "java/lang/IndexOutOfBoundsException" ["java/lang/RuntimeException", "java/lang/Exception"]).filter goodWord)
def wsX2_leastCost_r1 : List Cond := [Cond.methodLink RX2 160 yX2_leastWay, Cond.instanceMethod yX2_leastWay, Cond.selects RX2 yX2_leastWay yX2_leastWay, Cond.initialized RX2, Cond.code yX2_leastWay cX2_leastWay 9 (some .int), Cond.fieldLink RX2 42 "DeltaUpdater" "reached" "[I", Cond.fieldLink RX2 24 "DeltaUpdater" "made" "Ljava/util/ArrayList;", Cond.classLink RX2 111 "DeltaUpdater$Patch", Cond.fieldLink RX2 152 "DeltaUpdater$Patch" "price" "I", Cond.methodLink RX2 113 yX2_firstLike, Cond.instanceMethod yX2_firstLike, Cond.selects RX2 yX2_firstLike yX2_firstLike, Cond.code yX2_firstLike cX2_firstLike 4 (some .int), Cond.methodLink RX2 68 yX2_rowOf, Cond.instanceMethod yX2_rowOf, Cond.selects RX2 yX2_rowOf yX2_rowOf, Cond.code yX2_rowOf cX2_rowOf 2 (some (.object "DeltaUpdater$Row")), Cond.classLink RX2 75 "java/lang/IndexOutOfBoundsException", Cond.initialized "java/lang/IndexOutOfBoundsException", Cond.fieldLink RX2 20 "DeltaUpdater" "stored" "Ljava/util/ArrayList;", Cond.classLink RX2 27 "DeltaUpdater$Row", Cond.methodLink RX2 64 yJx4a65c_size_8abf5, Cond.instanceMethod yJx4a65c_size_8abf5, Cond.selects RJx4a65c yJx4a65c_size_8abf5 yJx4a65c_size_8abf5]
def wsX2_leastCost_r2 : List Cond := [Cond.initialized RJx4a65c, Cond.code yJx4a65c_size_8abf5 cJx4a65c_size_8abf5 1 (some .int), Cond.fieldLink RJx4a65c 48 "java/util/ArrayList" "size" "I", Cond.methodLink RX2 172 yJx4a65c_get_915e3, Cond.instanceMethod yJx4a65c_get_915e3, Cond.selects RJx4a65c yJx4a65c_get_915e3 yJx4a65c_get_915e3, Cond.code yJx4a65c_get_915e3 cJx4a65c_get_915e3 2 (some (.object "java/lang/Object")), Cond.methodLink RJx4a65c 118 yJ15_checkIndex_7cf53, Cond.static yJ15_checkIndex_7cf53, Cond.initialized RJ15, Cond.code yJ15_checkIndex_7cf53 cJ15_checkIndex_7cf53 2 (some .int), Cond.methodLink RJ15 105 yJ3_checkIndex_8e157, Cond.static yJ3_checkIndex_8e157, Cond.initialized RJ3, Cond.code yJ3_checkIndex_8e157 cJ3_checkIndex_8e157 3 (some .int), Cond.methodLink RJx4a65c 123 yJx4a65c_elementData_915e3, Cond.instanceMethod yJx4a65c_elementData_915e3, Cond.selects RJx4a65c yJx4a65c_elementData_915e3 yJx4a65c_elementData_915e3, Cond.code yJx4a65c_elementData_915e3 cJx4a65c_elementData_915e3 2 (some (.object "java/lang/Object")), Cond.fieldLink RJx4a65c 9 "java/util/ArrayList" "elementData" "[Ljava/lang/Object;", Cond.methodLink RX2 80 yX1_hasBytesOf, Cond.instanceMethod yX1_hasBytesOf, Cond.selects RX1 yX1_hasBytesOf yX1_hasBytesOf, Cond.initialized RX1]
def wsX2_leastCost_r3 : List Cond := [Cond.code yX1_hasBytesOf cX1_hasBytesOf 2 (some .boolean), Cond.fieldLink RX1 13 "DeltaUpdater$Row" "bytes" "[I", Cond.methodLink RX1 19 yX1_hasStretch, Cond.instanceMethod yX1_hasStretch, Cond.selects RX1 yX1_hasStretch yX1_hasStretch, Cond.code yX1_hasStretch cX1_hasStretch 6 (some .boolean), Cond.methodLink RX2 205 yJ7_fill_53178, Cond.static yJ7_fill_53178, Cond.initialized RJ7, Cond.code yJ7_fill_53178 cJ7_fill_53178 4 none, Cond.methodLink RX2 210 yX2_reachBy, Cond.instanceMethod yX2_reachBy, Cond.selects RX2 yX2_reachBy yX2_reachBy, Cond.code yX2_reachBy cX2_reachBy 5 none, Cond.fieldLink RX2 127 "DeltaUpdater$Patch" "base" "I", Cond.fieldLink RX2 124 "DeltaUpdater$Patch" "goal" "I"]
def wsX2_leastCost : List Cond := .code yX2_leastCost cX2_leastCost 3 (some .int) :: ((wsX2_leastCost_r1 ++ (wsX2_leastCost_r2 ++ wsX2_leastCost_r3)) ++ wsX20 ++ wsX00 ++ wsJx4a65c0 ++ wsX10 ++ (vx_atS RX2 79 "java/lang/IndexOutOfBoundsException" ["java/lang/RuntimeException", "java/lang/Exception"]).filter goodWord)
def wsJx4a65c_fastRemove_b59b0 : List Cond := .code yJx4a65c_fastRemove_b59b0 cJx4a65c_fastRemove_b59b0 4 none :: ([.fieldLink RJx4a65c 63 "java/util/ArrayList" "modCount" "I", .sameField "java/util/ArrayList" "java/util/AbstractList" "modCount" "I", .fieldLink RJx4a65c 48 "java/util/ArrayList" "size" "I", .methodLink RJx4a65c 112 arraycopyName, .native arraycopyName, .static arraycopyName, .initialized "java/lang/System"] ++ wsJx4a65c0)
def wsJx4a65c_remove_915e3 : List Cond := .code yJx4a65c_remove_915e3 cJx4a65c_remove_915e3 4 (some (.object "java/lang/Object")) :: ([.fieldLink RJx4a65c 48 "java/util/ArrayList" "size" "I", .fieldLink RJx4a65c 9 "java/util/ArrayList" "elementData" "[Ljava/lang/Object;", .methodLink RJx4a65c 118 yJ15_checkIndex_7cf53, .static yJ15_checkIndex_7cf53, .initialized RJ15, .code yJ15_checkIndex_7cf53 cJ15_checkIndex_7cf53 2 (some .int), .methodLink RJ15 105 yJ3_checkIndex_8e157, .static yJ3_checkIndex_8e157, .initialized RJ3, .code yJ3_checkIndex_8e157 cJ3_checkIndex_8e157 3 (some .int), .methodLink RJx4a65c 144 yJx4a65c_fastRemove_b59b0, .instanceMethod yJx4a65c_fastRemove_b59b0, .selects RJx4a65c yJx4a65c_fastRemove_b59b0 yJx4a65c_fastRemove_b59b0, .initialized RJx4a65c, .code yJx4a65c_fastRemove_b59b0 cJx4a65c_fastRemove_b59b0 4 none, .fieldLink RJx4a65c 63 "java/util/ArrayList" "modCount" "I", .sameField "java/util/ArrayList" "java/util/AbstractList" "modCount" "I", .methodLink RJx4a65c 112 arraycopyName, .native arraycopyName, .static arraycopyName, .initialized "java/lang/System"] ++ wsJx4a65c0)
def wsX2_install_r1 : List Cond := [Cond.fieldLink RX2 36 "DeltaUpdater" "history" "Ljava/util/ArrayList;", Cond.fieldLink RX2 32 "DeltaUpdater" "installed" "LDeltaUpdater$Row;", Cond.methodLink RX2 64 yJx4a65c_size_8abf5, Cond.instanceMethod yJx4a65c_size_8abf5, Cond.selects RJx4a65c yJx4a65c_size_8abf5 yJx4a65c_size_8abf5, Cond.initialized RJx4a65c, Cond.code yJx4a65c_size_8abf5 cJx4a65c_size_8abf5 1 (some .int), Cond.fieldLink RJx4a65c 48 "java/util/ArrayList" "size" "I", Cond.methodLink RX2 176 yJx4a65c_remove_915e3, Cond.instanceMethod yJx4a65c_remove_915e3, Cond.selects RJx4a65c yJx4a65c_remove_915e3 yJx4a65c_remove_915e3, Cond.code yJx4a65c_remove_915e3 cJx4a65c_remove_915e3 4 (some (.object "java/lang/Object")), Cond.fieldLink RJx4a65c 9 "java/util/ArrayList" "elementData" "[Ljava/lang/Object;", Cond.methodLink RJx4a65c 118 yJ15_checkIndex_7cf53, Cond.static yJ15_checkIndex_7cf53, Cond.initialized RJ15, Cond.code yJ15_checkIndex_7cf53 cJ15_checkIndex_7cf53 2 (some .int), Cond.methodLink RJ15 105 yJ3_checkIndex_8e157, Cond.static yJ3_checkIndex_8e157, Cond.initialized RJ3, Cond.code yJ3_checkIndex_8e157 cJ3_checkIndex_8e157 3 (some .int), Cond.methodLink RJx4a65c 144 yJx4a65c_fastRemove_b59b0, Cond.instanceMethod yJx4a65c_fastRemove_b59b0, Cond.selects RJx4a65c yJx4a65c_fastRemove_b59b0 yJx4a65c_fastRemove_b59b0]
def wsX2_install_r2 : List Cond := [Cond.code yJx4a65c_fastRemove_b59b0 cJx4a65c_fastRemove_b59b0 4 none, Cond.fieldLink RJx4a65c 63 "java/util/ArrayList" "modCount" "I", Cond.sameField "java/util/ArrayList" "java/util/AbstractList" "modCount" "I", Cond.methodLink RJx4a65c 112 arraycopyName, Cond.native arraycopyName, Cond.static arraycopyName, Cond.initialized "java/lang/System", Cond.methodLink RX2 60 yJx4a65c_add_9ea2d, Cond.instanceMethod yJx4a65c_add_9ea2d, Cond.selects RJx4a65c yJx4a65c_add_9ea2d yJx4a65c_add_9ea2d, Cond.code yJx4a65c_add_9ea2d cJx4a65c_add_9ea2d 2 (some .boolean), Cond.methodLink RJx4a65c 131 yJx4a65c_add_72be8, Cond.instanceMethod yJx4a65c_add_72be8, Cond.selects RJx4a65c yJx4a65c_add_72be8 yJx4a65c_add_72be8, Cond.code yJx4a65c_add_72be8 cJx4a65c_add_72be8 4 none, Cond.methodLink RJx4a65c 129 yJx4a65c_grow_d5877, Cond.instanceMethod yJx4a65c_grow_d5877, Cond.selects RJx4a65c yJx4a65c_grow_d5877 yJx4a65c_grow_d5877, Cond.code yJx4a65c_grow_d5877 cJx4a65c_grow_d5877 1 (some (.array (.object "java/lang/Object"))), Cond.methodLink RJx4a65c 69 yJx4a65c_grow_92f84, Cond.instanceMethod yJx4a65c_grow_92f84, Cond.selects RJx4a65c yJx4a65c_grow_92f84 yJx4a65c_grow_92f84, Cond.code yJx4a65c_grow_92f84 cJx4a65c_grow_92f84 4 (some (.array (.object "java/lang/Object"))), Cond.fieldLink RJx4a65c 39 "java/util/ArrayList" "DEFAULTCAPACITY_EMPTY_ELEMENTDATA" "[Ljava/lang/Object;"]
def wsX2_install_r3 : List Cond := [Cond.methodLink RJx4a65c 79 Lib.Math.max.name, Cond.static Lib.Math.max.name, Cond.initialized "java/lang/Math", Cond.code Lib.Math.max.name Lib.Math.max.code 2 (some .int), Cond.classLink RJx4a65c 7 "java/lang/Object", Cond.methodLink RJx4a65c 73 yJ8_newLength_cabcc, Cond.static yJ8_newLength_cabcc, Cond.initialized RJ8, Cond.code yJ8_newLength_cabcc cJ8_newLength_cabcc 4 (some .int), Cond.methodLink RJ8 194 Lib.Math.max.name, Cond.constant RJ8 200 (2147483639), Cond.methodLink RJ8 201 yJ8_hugeLength_7cf53, Cond.static yJ8_hugeLength_7cf53, Cond.code yJ8_hugeLength_7cf53 cJ8_hugeLength_7cf53 3 (some .int), Cond.methodLink RJx4a65c 66 yJ7_copyOf_1904c, Cond.static yJ7_copyOf_1904c, Cond.initialized RJ7, Cond.code yJ7_copyOf_1904c cJ7_copyOf_1904c 2 (some (.array (.object "java/lang/Object"))), Cond.methodLink RJ7 86 ⟨"java/lang/Object", "getClass", "()Ljava/lang/Class;"⟩, Cond.selects "[Ljava/lang/Object;" ⟨"java/lang/Object", "getClass", "()Ljava/lang/Class;"⟩ ⟨"java/lang/Object", "getClass", "()Ljava/lang/Class;"⟩, Cond.instanceMethod ⟨"java/lang/Object", "getClass", "()Ljava/lang/Class;"⟩, Cond.native ⟨"java/lang/Object", "getClass", "()Ljava/lang/Class;"⟩, Cond.methodLink RJ7 300 yJ7_copyOf_6403c, Cond.static yJ7_copyOf_6403c]
def wsX2_install_r4 : List Cond := [Cond.code yJ7_copyOf_6403c cJ7_copyOf_6403c 4 (some (.array (.object "java/lang/Object"))), Cond.classLink RJ7 110 "[Ljava/lang/Object;", Cond.classLink RJ7 2 "java/lang/Object", Cond.methodLink RJ7 304 Lib.Math.min.name, Cond.static Lib.Math.min.name, Cond.code Lib.Math.min.name Lib.Math.min.code 2 (some .int), Cond.methodLink RJ7 150 arraycopyName]
def wsX2_install : List Cond := .code yX2_install cX2_install 2 (some .int) :: ((wsX2_install_r1 ++ (wsX2_install_r2 ++ (wsX2_install_r3 ++ wsX2_install_r4))) ++ wsX20 ++ wsJx4a65c0)
def wsX2_installVersion_r1 : List Cond := [Cond.methodLink RX2 68 yX2_rowOf, Cond.instanceMethod yX2_rowOf, Cond.selects RX2 yX2_rowOf yX2_rowOf, Cond.initialized RX2, Cond.code yX2_rowOf cX2_rowOf 2 (some (.object "DeltaUpdater$Row")), Cond.classLink RX2 75 "java/lang/IndexOutOfBoundsException", Cond.initialized "java/lang/IndexOutOfBoundsException", Cond.fieldLink RX2 20 "DeltaUpdater" "stored" "Ljava/util/ArrayList;", Cond.classLink RX2 27 "DeltaUpdater$Row", Cond.methodLink RX2 64 yJx4a65c_size_8abf5, Cond.instanceMethod yJx4a65c_size_8abf5, Cond.selects RJx4a65c yJx4a65c_size_8abf5 yJx4a65c_size_8abf5, Cond.initialized RJx4a65c, Cond.code yJx4a65c_size_8abf5 cJx4a65c_size_8abf5 1 (some .int), Cond.fieldLink RJx4a65c 48 "java/util/ArrayList" "size" "I", Cond.methodLink RX2 172 yJx4a65c_get_915e3, Cond.instanceMethod yJx4a65c_get_915e3, Cond.selects RJx4a65c yJx4a65c_get_915e3 yJx4a65c_get_915e3, Cond.code yJx4a65c_get_915e3 cJx4a65c_get_915e3 2 (some (.object "java/lang/Object")), Cond.methodLink RJx4a65c 118 yJ15_checkIndex_7cf53, Cond.static yJ15_checkIndex_7cf53, Cond.initialized RJ15, Cond.code yJ15_checkIndex_7cf53 cJ15_checkIndex_7cf53 2 (some .int), Cond.methodLink RJ15 105 yJ3_checkIndex_8e157]
def wsX2_installVersion_r2 : List Cond := [Cond.static yJ3_checkIndex_8e157, Cond.initialized RJ3, Cond.code yJ3_checkIndex_8e157 cJ3_checkIndex_8e157 3 (some .int), Cond.methodLink RJx4a65c 123 yJx4a65c_elementData_915e3, Cond.instanceMethod yJx4a65c_elementData_915e3, Cond.selects RJx4a65c yJx4a65c_elementData_915e3 yJx4a65c_elementData_915e3, Cond.code yJx4a65c_elementData_915e3 cJx4a65c_elementData_915e3 2 (some (.object "java/lang/Object")), Cond.fieldLink RJx4a65c 9 "java/util/ArrayList" "elementData" "[Ljava/lang/Object;", Cond.methodLink RX2 164 yX2_install, Cond.instanceMethod yX2_install, Cond.selects RX2 yX2_install yX2_install, Cond.code yX2_install cX2_install 2 (some .int), Cond.fieldLink RX2 36 "DeltaUpdater" "history" "Ljava/util/ArrayList;", Cond.fieldLink RX2 32 "DeltaUpdater" "installed" "LDeltaUpdater$Row;", Cond.methodLink RX2 176 yJx4a65c_remove_915e3, Cond.instanceMethod yJx4a65c_remove_915e3, Cond.selects RJx4a65c yJx4a65c_remove_915e3 yJx4a65c_remove_915e3, Cond.code yJx4a65c_remove_915e3 cJx4a65c_remove_915e3 4 (some (.object "java/lang/Object")), Cond.methodLink RJx4a65c 144 yJx4a65c_fastRemove_b59b0, Cond.instanceMethod yJx4a65c_fastRemove_b59b0, Cond.selects RJx4a65c yJx4a65c_fastRemove_b59b0 yJx4a65c_fastRemove_b59b0, Cond.code yJx4a65c_fastRemove_b59b0 cJx4a65c_fastRemove_b59b0 4 none, Cond.fieldLink RJx4a65c 63 "java/util/ArrayList" "modCount" "I", Cond.sameField "java/util/ArrayList" "java/util/AbstractList" "modCount" "I"]
def wsX2_installVersion_r3 : List Cond := [Cond.methodLink RJx4a65c 112 arraycopyName, Cond.native arraycopyName, Cond.static arraycopyName, Cond.initialized "java/lang/System", Cond.methodLink RX2 60 yJx4a65c_add_9ea2d, Cond.instanceMethod yJx4a65c_add_9ea2d, Cond.selects RJx4a65c yJx4a65c_add_9ea2d yJx4a65c_add_9ea2d, Cond.code yJx4a65c_add_9ea2d cJx4a65c_add_9ea2d 2 (some .boolean), Cond.methodLink RJx4a65c 131 yJx4a65c_add_72be8, Cond.instanceMethod yJx4a65c_add_72be8, Cond.selects RJx4a65c yJx4a65c_add_72be8 yJx4a65c_add_72be8, Cond.code yJx4a65c_add_72be8 cJx4a65c_add_72be8 4 none, Cond.methodLink RJx4a65c 129 yJx4a65c_grow_d5877, Cond.instanceMethod yJx4a65c_grow_d5877, Cond.selects RJx4a65c yJx4a65c_grow_d5877 yJx4a65c_grow_d5877, Cond.code yJx4a65c_grow_d5877 cJx4a65c_grow_d5877 1 (some (.array (.object "java/lang/Object"))), Cond.methodLink RJx4a65c 69 yJx4a65c_grow_92f84, Cond.instanceMethod yJx4a65c_grow_92f84, Cond.selects RJx4a65c yJx4a65c_grow_92f84 yJx4a65c_grow_92f84, Cond.code yJx4a65c_grow_92f84 cJx4a65c_grow_92f84 4 (some (.array (.object "java/lang/Object"))), Cond.fieldLink RJx4a65c 39 "java/util/ArrayList" "DEFAULTCAPACITY_EMPTY_ELEMENTDATA" "[Ljava/lang/Object;", Cond.methodLink RJx4a65c 79 Lib.Math.max.name, Cond.static Lib.Math.max.name, Cond.initialized "java/lang/Math"]
def wsX2_installVersion_r4 : List Cond := [Cond.code Lib.Math.max.name Lib.Math.max.code 2 (some .int), Cond.classLink RJx4a65c 7 "java/lang/Object", Cond.methodLink RJx4a65c 73 yJ8_newLength_cabcc, Cond.static yJ8_newLength_cabcc, Cond.initialized RJ8, Cond.code yJ8_newLength_cabcc cJ8_newLength_cabcc 4 (some .int), Cond.methodLink RJ8 194 Lib.Math.max.name, Cond.constant RJ8 200 (2147483639), Cond.methodLink RJ8 201 yJ8_hugeLength_7cf53, Cond.static yJ8_hugeLength_7cf53, Cond.code yJ8_hugeLength_7cf53 cJ8_hugeLength_7cf53 3 (some .int), Cond.methodLink RJx4a65c 66 yJ7_copyOf_1904c, Cond.static yJ7_copyOf_1904c, Cond.initialized RJ7, Cond.code yJ7_copyOf_1904c cJ7_copyOf_1904c 2 (some (.array (.object "java/lang/Object"))), Cond.methodLink RJ7 86 ⟨"java/lang/Object", "getClass", "()Ljava/lang/Class;"⟩, Cond.selects "[Ljava/lang/Object;" ⟨"java/lang/Object", "getClass", "()Ljava/lang/Class;"⟩ ⟨"java/lang/Object", "getClass", "()Ljava/lang/Class;"⟩, Cond.instanceMethod ⟨"java/lang/Object", "getClass", "()Ljava/lang/Class;"⟩, Cond.native ⟨"java/lang/Object", "getClass", "()Ljava/lang/Class;"⟩, Cond.methodLink RJ7 300 yJ7_copyOf_6403c, Cond.static yJ7_copyOf_6403c, Cond.code yJ7_copyOf_6403c cJ7_copyOf_6403c 4 (some (.array (.object "java/lang/Object"))), Cond.classLink RJ7 110 "[Ljava/lang/Object;", Cond.classLink RJ7 2 "java/lang/Object"]
def wsX2_installVersion_r5 : List Cond := [Cond.methodLink RJ7 304 Lib.Math.min.name, Cond.static Lib.Math.min.name, Cond.code Lib.Math.min.name Lib.Math.min.code 2 (some .int), Cond.methodLink RJ7 150 arraycopyName]
def wsX2_installVersion : List Cond := .code yX2_installVersion cX2_installVersion 2 (some .int) :: ((wsX2_installVersion_r1 ++ (wsX2_installVersion_r2 ++ (wsX2_installVersion_r3 ++ (wsX2_installVersion_r4 ++ wsX2_installVersion_r5)))) ++ wsX20 ++ wsJx4a65c0 ++ (vx_atS RX2 79 "java/lang/IndexOutOfBoundsException" ["java/lang/RuntimeException", "java/lang/Exception"]).filter goodWord)
def wsX2_installPatch_r1 : List Cond := [Cond.classLink RX2 45 "java/lang/IllegalArgumentException", Cond.initialized "java/lang/IllegalArgumentException", Cond.fieldLink RX2 32 "DeltaUpdater" "installed" "LDeltaUpdater$Row;", Cond.fieldLink RX2 127 "DeltaUpdater$Patch" "base" "I", Cond.fieldLink RX2 139 "DeltaUpdater$Patch" "goalRow" "LDeltaUpdater$Row;", Cond.methodLink RX2 120 yX2_patchOf, Cond.instanceMethod yX2_patchOf, Cond.selects RX2 yX2_patchOf yX2_patchOf, Cond.initialized RX2, Cond.code yX2_patchOf cX2_patchOf 2 (some (.object "DeltaUpdater$Patch")), Cond.classLink RX2 75 "java/lang/IndexOutOfBoundsException", Cond.initialized "java/lang/IndexOutOfBoundsException", Cond.fieldLink RX2 24 "DeltaUpdater" "made" "Ljava/util/ArrayList;", Cond.classLink RX2 111 "DeltaUpdater$Patch", Cond.methodLink RX2 64 yJx4a65c_size_8abf5, Cond.instanceMethod yJx4a65c_size_8abf5, Cond.selects RJx4a65c yJx4a65c_size_8abf5 yJx4a65c_size_8abf5, Cond.initialized RJx4a65c, Cond.code yJx4a65c_size_8abf5 cJx4a65c_size_8abf5 1 (some .int), Cond.fieldLink RJx4a65c 48 "java/util/ArrayList" "size" "I", Cond.methodLink RX2 172 yJx4a65c_get_915e3, Cond.instanceMethod yJx4a65c_get_915e3, Cond.selects RJx4a65c yJx4a65c_get_915e3 yJx4a65c_get_915e3, Cond.code yJx4a65c_get_915e3 cJx4a65c_get_915e3 2 (some (.object "java/lang/Object"))]
def wsX2_installPatch_r2 : List Cond := [Cond.methodLink RJx4a65c 118 yJ15_checkIndex_7cf53, Cond.static yJ15_checkIndex_7cf53, Cond.initialized RJ15, Cond.code yJ15_checkIndex_7cf53 cJ15_checkIndex_7cf53 2 (some .int), Cond.methodLink RJ15 105 yJ3_checkIndex_8e157, Cond.static yJ3_checkIndex_8e157, Cond.initialized RJ3, Cond.code yJ3_checkIndex_8e157 cJ3_checkIndex_8e157 3 (some .int), Cond.methodLink RJx4a65c 123 yJx4a65c_elementData_915e3, Cond.instanceMethod yJx4a65c_elementData_915e3, Cond.selects RJx4a65c yJx4a65c_elementData_915e3 yJx4a65c_elementData_915e3, Cond.code yJx4a65c_elementData_915e3 cJx4a65c_elementData_915e3 2 (some (.object "java/lang/Object")), Cond.fieldLink RJx4a65c 9 "java/util/ArrayList" "elementData" "[Ljava/lang/Object;", Cond.methodLink RX2 68 yX2_rowOf, Cond.instanceMethod yX2_rowOf, Cond.selects RX2 yX2_rowOf yX2_rowOf, Cond.code yX2_rowOf cX2_rowOf 2 (some (.object "DeltaUpdater$Row")), Cond.fieldLink RX2 20 "DeltaUpdater" "stored" "Ljava/util/ArrayList;", Cond.classLink RX2 27 "DeltaUpdater$Row", Cond.methodLink RX2 80 yX1_hasBytesOf, Cond.instanceMethod yX1_hasBytesOf, Cond.selects RX1 yX1_hasBytesOf yX1_hasBytesOf, Cond.initialized RX1, Cond.code yX1_hasBytesOf cX1_hasBytesOf 2 (some .boolean)]
def wsX2_installPatch_r3 : List Cond := [Cond.fieldLink RX1 13 "DeltaUpdater$Row" "bytes" "[I", Cond.methodLink RX1 19 yX1_hasStretch, Cond.instanceMethod yX1_hasStretch, Cond.selects RX1 yX1_hasStretch yX1_hasStretch, Cond.code yX1_hasStretch cX1_hasStretch 6 (some .boolean), Cond.methodLink RX2 164 yX2_install, Cond.instanceMethod yX2_install, Cond.selects RX2 yX2_install yX2_install, Cond.code yX2_install cX2_install 2 (some .int), Cond.fieldLink RX2 36 "DeltaUpdater" "history" "Ljava/util/ArrayList;", Cond.methodLink RX2 176 yJx4a65c_remove_915e3, Cond.instanceMethod yJx4a65c_remove_915e3, Cond.selects RJx4a65c yJx4a65c_remove_915e3 yJx4a65c_remove_915e3, Cond.code yJx4a65c_remove_915e3 cJx4a65c_remove_915e3 4 (some (.object "java/lang/Object")), Cond.methodLink RJx4a65c 144 yJx4a65c_fastRemove_b59b0, Cond.instanceMethod yJx4a65c_fastRemove_b59b0, Cond.selects RJx4a65c yJx4a65c_fastRemove_b59b0 yJx4a65c_fastRemove_b59b0, Cond.code yJx4a65c_fastRemove_b59b0 cJx4a65c_fastRemove_b59b0 4 none, Cond.fieldLink RJx4a65c 63 "java/util/ArrayList" "modCount" "I", Cond.sameField "java/util/ArrayList" "java/util/AbstractList" "modCount" "I", Cond.methodLink RJx4a65c 112 arraycopyName, Cond.native arraycopyName, Cond.static arraycopyName, Cond.initialized "java/lang/System"]
def wsX2_installPatch_r4 : List Cond := [Cond.methodLink RX2 60 yJx4a65c_add_9ea2d, Cond.instanceMethod yJx4a65c_add_9ea2d, Cond.selects RJx4a65c yJx4a65c_add_9ea2d yJx4a65c_add_9ea2d, Cond.code yJx4a65c_add_9ea2d cJx4a65c_add_9ea2d 2 (some .boolean), Cond.methodLink RJx4a65c 131 yJx4a65c_add_72be8, Cond.instanceMethod yJx4a65c_add_72be8, Cond.selects RJx4a65c yJx4a65c_add_72be8 yJx4a65c_add_72be8, Cond.code yJx4a65c_add_72be8 cJx4a65c_add_72be8 4 none, Cond.methodLink RJx4a65c 129 yJx4a65c_grow_d5877, Cond.instanceMethod yJx4a65c_grow_d5877, Cond.selects RJx4a65c yJx4a65c_grow_d5877 yJx4a65c_grow_d5877, Cond.code yJx4a65c_grow_d5877 cJx4a65c_grow_d5877 1 (some (.array (.object "java/lang/Object"))), Cond.methodLink RJx4a65c 69 yJx4a65c_grow_92f84, Cond.instanceMethod yJx4a65c_grow_92f84, Cond.selects RJx4a65c yJx4a65c_grow_92f84 yJx4a65c_grow_92f84, Cond.code yJx4a65c_grow_92f84 cJx4a65c_grow_92f84 4 (some (.array (.object "java/lang/Object"))), Cond.fieldLink RJx4a65c 39 "java/util/ArrayList" "DEFAULTCAPACITY_EMPTY_ELEMENTDATA" "[Ljava/lang/Object;", Cond.methodLink RJx4a65c 79 Lib.Math.max.name, Cond.static Lib.Math.max.name, Cond.initialized "java/lang/Math", Cond.code Lib.Math.max.name Lib.Math.max.code 2 (some .int), Cond.classLink RJx4a65c 7 "java/lang/Object", Cond.methodLink RJx4a65c 73 yJ8_newLength_cabcc, Cond.static yJ8_newLength_cabcc]
def wsX2_installPatch_r5 : List Cond := [Cond.initialized RJ8, Cond.code yJ8_newLength_cabcc cJ8_newLength_cabcc 4 (some .int), Cond.methodLink RJ8 194 Lib.Math.max.name, Cond.constant RJ8 200 (2147483639), Cond.methodLink RJ8 201 yJ8_hugeLength_7cf53, Cond.static yJ8_hugeLength_7cf53, Cond.code yJ8_hugeLength_7cf53 cJ8_hugeLength_7cf53 3 (some .int), Cond.methodLink RJx4a65c 66 yJ7_copyOf_1904c, Cond.static yJ7_copyOf_1904c, Cond.initialized RJ7, Cond.code yJ7_copyOf_1904c cJ7_copyOf_1904c 2 (some (.array (.object "java/lang/Object"))), Cond.methodLink RJ7 86 ⟨"java/lang/Object", "getClass", "()Ljava/lang/Class;"⟩, Cond.selects "[Ljava/lang/Object;" ⟨"java/lang/Object", "getClass", "()Ljava/lang/Class;"⟩ ⟨"java/lang/Object", "getClass", "()Ljava/lang/Class;"⟩, Cond.instanceMethod ⟨"java/lang/Object", "getClass", "()Ljava/lang/Class;"⟩, Cond.native ⟨"java/lang/Object", "getClass", "()Ljava/lang/Class;"⟩, Cond.methodLink RJ7 300 yJ7_copyOf_6403c, Cond.static yJ7_copyOf_6403c, Cond.code yJ7_copyOf_6403c cJ7_copyOf_6403c 4 (some (.array (.object "java/lang/Object"))), Cond.classLink RJ7 110 "[Ljava/lang/Object;", Cond.classLink RJ7 2 "java/lang/Object", Cond.methodLink RJ7 304 Lib.Math.min.name, Cond.static Lib.Math.min.name, Cond.code Lib.Math.min.name Lib.Math.min.code 2 (some .int), Cond.methodLink RJ7 150 arraycopyName]
def wsX2_installPatch : List Cond := .code yX2_installPatch cX2_installPatch 3 (some .int) :: ((wsX2_installPatch_r1 ++ (wsX2_installPatch_r2 ++ (wsX2_installPatch_r3 ++ (wsX2_installPatch_r4 ++ wsX2_installPatch_r5)))) ++ wsX20 ++ wsX00 ++ wsJx4a65c0 ++ wsX10 ++ (vx_atS RX2 49 "java/lang/IllegalArgumentException" ["java/lang/RuntimeException", "java/lang/Exception"]).filter goodWord ++ (vx_atS RX2 79 "java/lang/IndexOutOfBoundsException" ["java/lang/RuntimeException", "java/lang/Exception"]).filter goodWord)
def wsX2_rollBack_r1 : List Cond := [Cond.classLink RX2 52 "java/lang/IllegalStateException", Cond.initialized "java/lang/IllegalStateException", Cond.fieldLink RX2 36 "DeltaUpdater" "history" "Ljava/util/ArrayList;", Cond.classLink RX2 27 "DeltaUpdater$Row", Cond.fieldLink RX2 32 "DeltaUpdater" "installed" "LDeltaUpdater$Row;", Cond.methodLink RX2 64 yJx4a65c_size_8abf5, Cond.instanceMethod yJx4a65c_size_8abf5, Cond.selects RJx4a65c yJx4a65c_size_8abf5 yJx4a65c_size_8abf5, Cond.initialized RJx4a65c, Cond.code yJx4a65c_size_8abf5 cJx4a65c_size_8abf5 1 (some .int), Cond.fieldLink RJx4a65c 48 "java/util/ArrayList" "size" "I", Cond.methodLink RX2 172 yJx4a65c_get_915e3, Cond.instanceMethod yJx4a65c_get_915e3, Cond.selects RJx4a65c yJx4a65c_get_915e3 yJx4a65c_get_915e3, Cond.code yJx4a65c_get_915e3 cJx4a65c_get_915e3 2 (some (.object "java/lang/Object")), Cond.methodLink RJx4a65c 118 yJ15_checkIndex_7cf53, Cond.static yJ15_checkIndex_7cf53, Cond.initialized RJ15, Cond.code yJ15_checkIndex_7cf53 cJ15_checkIndex_7cf53 2 (some .int), Cond.methodLink RJ15 105 yJ3_checkIndex_8e157, Cond.static yJ3_checkIndex_8e157, Cond.initialized RJ3, Cond.code yJ3_checkIndex_8e157 cJ3_checkIndex_8e157 3 (some .int), Cond.methodLink RJx4a65c 123 yJx4a65c_elementData_915e3]
def wsX2_rollBack_r2 : List Cond := [Cond.instanceMethod yJx4a65c_elementData_915e3, Cond.selects RJx4a65c yJx4a65c_elementData_915e3 yJx4a65c_elementData_915e3, Cond.code yJx4a65c_elementData_915e3 cJx4a65c_elementData_915e3 2 (some (.object "java/lang/Object")), Cond.fieldLink RJx4a65c 9 "java/util/ArrayList" "elementData" "[Ljava/lang/Object;", Cond.methodLink RX2 176 yJx4a65c_remove_915e3, Cond.instanceMethod yJx4a65c_remove_915e3, Cond.selects RJx4a65c yJx4a65c_remove_915e3 yJx4a65c_remove_915e3, Cond.code yJx4a65c_remove_915e3 cJx4a65c_remove_915e3 4 (some (.object "java/lang/Object")), Cond.methodLink RJx4a65c 144 yJx4a65c_fastRemove_b59b0, Cond.instanceMethod yJx4a65c_fastRemove_b59b0, Cond.selects RJx4a65c yJx4a65c_fastRemove_b59b0 yJx4a65c_fastRemove_b59b0, Cond.code yJx4a65c_fastRemove_b59b0 cJx4a65c_fastRemove_b59b0 4 none, Cond.fieldLink RJx4a65c 63 "java/util/ArrayList" "modCount" "I", Cond.sameField "java/util/ArrayList" "java/util/AbstractList" "modCount" "I", Cond.methodLink RJx4a65c 112 arraycopyName, Cond.native arraycopyName, Cond.static arraycopyName, Cond.initialized "java/lang/System"]
def wsX2_rollBack : List Cond := .code yX2_rollBack cX2_rollBack 2 (some .int) :: ((wsX2_rollBack_r1 ++ wsX2_rollBack_r2) ++ wsX20 ++ wsJx4a65c0 ++ (vx_atS RX2 56 "java/lang/IllegalStateException" ["java/lang/RuntimeException", "java/lang/Exception"]).filter goodWord)
def wsX2_isInstalled_r1 : List Cond := [Cond.fieldLink RX2 32 "DeltaUpdater" "installed" "LDeltaUpdater$Row;", Cond.methodLink RX2 68 yX2_rowOf, Cond.instanceMethod yX2_rowOf, Cond.selects RX2 yX2_rowOf yX2_rowOf, Cond.initialized RX2, Cond.code yX2_rowOf cX2_rowOf 2 (some (.object "DeltaUpdater$Row")), Cond.classLink RX2 75 "java/lang/IndexOutOfBoundsException", Cond.initialized "java/lang/IndexOutOfBoundsException", Cond.fieldLink RX2 20 "DeltaUpdater" "stored" "Ljava/util/ArrayList;", Cond.classLink RX2 27 "DeltaUpdater$Row", Cond.methodLink RX2 64 yJx4a65c_size_8abf5, Cond.instanceMethod yJx4a65c_size_8abf5, Cond.selects RJx4a65c yJx4a65c_size_8abf5 yJx4a65c_size_8abf5, Cond.initialized RJx4a65c, Cond.code yJx4a65c_size_8abf5 cJx4a65c_size_8abf5 1 (some .int), Cond.fieldLink RJx4a65c 48 "java/util/ArrayList" "size" "I", Cond.methodLink RX2 172 yJx4a65c_get_915e3, Cond.instanceMethod yJx4a65c_get_915e3, Cond.selects RJx4a65c yJx4a65c_get_915e3 yJx4a65c_get_915e3, Cond.code yJx4a65c_get_915e3 cJx4a65c_get_915e3 2 (some (.object "java/lang/Object")), Cond.methodLink RJx4a65c 118 yJ15_checkIndex_7cf53, Cond.static yJ15_checkIndex_7cf53, Cond.initialized RJ15, Cond.code yJ15_checkIndex_7cf53 cJ15_checkIndex_7cf53 2 (some .int)]
def wsX2_isInstalled_r2 : List Cond := [Cond.methodLink RJ15 105 yJ3_checkIndex_8e157, Cond.static yJ3_checkIndex_8e157, Cond.initialized RJ3, Cond.code yJ3_checkIndex_8e157 cJ3_checkIndex_8e157 3 (some .int), Cond.methodLink RJx4a65c 123 yJx4a65c_elementData_915e3, Cond.instanceMethod yJx4a65c_elementData_915e3, Cond.selects RJx4a65c yJx4a65c_elementData_915e3 yJx4a65c_elementData_915e3, Cond.code yJx4a65c_elementData_915e3 cJx4a65c_elementData_915e3 2 (some (.object "java/lang/Object")), Cond.fieldLink RJx4a65c 9 "java/util/ArrayList" "elementData" "[Ljava/lang/Object;", Cond.methodLink RX2 80 yX1_hasBytesOf, Cond.instanceMethod yX1_hasBytesOf, Cond.selects RX1 yX1_hasBytesOf yX1_hasBytesOf, Cond.initialized RX1, Cond.code yX1_hasBytesOf cX1_hasBytesOf 2 (some .boolean), Cond.fieldLink RX1 13 "DeltaUpdater$Row" "bytes" "[I", Cond.methodLink RX1 19 yX1_hasStretch, Cond.instanceMethod yX1_hasStretch, Cond.selects RX1 yX1_hasStretch yX1_hasStretch, Cond.code yX1_hasStretch cX1_hasStretch 6 (some .boolean)]
def wsX2_isInstalled : List Cond := .code yX2_isInstalled cX2_isInstalled 2 (some .boolean) :: ((wsX2_isInstalled_r1 ++ wsX2_isInstalled_r2) ++ wsX20 ++ wsJx4a65c0 ++ wsX10 ++ (vx_atS RX2 79 "java/lang/IndexOutOfBoundsException" ["java/lang/RuntimeException", "java/lang/Exception"]).filter goodWord)
def wsX2_installedLength : List Cond := .code yX2_installedLength cX2_installedLength 1 (some .int) :: ([.fieldLink RX2 32 "DeltaUpdater" "installed" "LDeltaUpdater$Row;", .fieldLink RX2 72 "DeltaUpdater$Row" "bytes" "[I"] ++ wsX20 ++ wsX10)
def wsX2_digestOfBytes : List Cond := .code yX2_digestOfBytes cX2_digestOfBytes 7 (some .long) :: ([.constantLong RX2 185 (31)])
def wsX2_digestOfPatch : List Cond := .code yX2_digestOfPatch cX2_digestOfPatch 7 (some .long) :: ([.constantLong RX2 185 (31), .fieldLink RX2 142 "DeltaUpdater$Patch" "starts" "[I", .methodLink RX2 149 yX0_tell, .instanceMethod yX0_tell, .selects RX0 yX0_tell yX0_tell, .initialized RX0, .code yX0_tell cX0_tell 6 (some .int), .fieldLink RX0 30 "DeltaUpdater$Patch" "starts" "[I", .fieldLink RX0 22 "DeltaUpdater$Patch" "origins" "[I", .fieldLink RX0 18 "DeltaUpdater$Patch" "goalRow" "LDeltaUpdater$Row;", .methodLink RX0 57 yX1_sumOf, .instanceMethod yX1_sumOf, .selects RX1 yX1_sumOf yX1_sumOf, .initialized RX1, .code yX1_sumOf cX1_sumOf 6 (some .int), .fieldLink RX1 13 "DeltaUpdater$Row" "bytes" "[I"] ++ wsX00 ++ wsX10)
def wsX2_digest_r1 : List Cond := [Cond.constantLong RX2 179 (233), Cond.fieldLink RX2 9 "DeltaUpdater" "buffer" "[I", Cond.fieldLink RX2 13 "DeltaUpdater" "buffered" "I", Cond.constantLong RX2 185 (31), Cond.fieldLink RX2 20 "DeltaUpdater" "stored" "Ljava/util/ArrayList;", Cond.classLink RX2 27 "DeltaUpdater$Row", Cond.fieldLink RX2 72 "DeltaUpdater$Row" "bytes" "[I", Cond.fieldLink RX2 24 "DeltaUpdater" "made" "Ljava/util/ArrayList;", Cond.classLink RX2 111 "DeltaUpdater$Patch", Cond.fieldLink RX2 32 "DeltaUpdater" "installed" "LDeltaUpdater$Row;", Cond.fieldLink RX2 36 "DeltaUpdater" "history" "Ljava/util/ArrayList;", Cond.methodLink RX2 181 yX2_digestOfBytes, Cond.static yX2_digestOfBytes, Cond.initialized RX2, Cond.code yX2_digestOfBytes cX2_digestOfBytes 7 (some .long), Cond.methodLink RX2 64 yJx4a65c_size_8abf5, Cond.instanceMethod yJx4a65c_size_8abf5, Cond.selects RJx4a65c yJx4a65c_size_8abf5 yJx4a65c_size_8abf5, Cond.initialized RJx4a65c, Cond.code yJx4a65c_size_8abf5 cJx4a65c_size_8abf5 1 (some .int), Cond.fieldLink RJx4a65c 48 "java/util/ArrayList" "size" "I", Cond.methodLink RX2 172 yJx4a65c_get_915e3, Cond.instanceMethod yJx4a65c_get_915e3, Cond.selects RJx4a65c yJx4a65c_get_915e3 yJx4a65c_get_915e3]
def wsX2_digest_r2 : List Cond := [Cond.code yJx4a65c_get_915e3 cJx4a65c_get_915e3 2 (some (.object "java/lang/Object")), Cond.methodLink RJx4a65c 118 yJ15_checkIndex_7cf53, Cond.static yJ15_checkIndex_7cf53, Cond.initialized RJ15, Cond.code yJ15_checkIndex_7cf53 cJ15_checkIndex_7cf53 2 (some .int), Cond.methodLink RJ15 105 yJ3_checkIndex_8e157, Cond.static yJ3_checkIndex_8e157, Cond.initialized RJ3, Cond.code yJ3_checkIndex_8e157 cJ3_checkIndex_8e157 3 (some .int), Cond.methodLink RJx4a65c 123 yJx4a65c_elementData_915e3, Cond.instanceMethod yJx4a65c_elementData_915e3, Cond.selects RJx4a65c yJx4a65c_elementData_915e3 yJx4a65c_elementData_915e3, Cond.code yJx4a65c_elementData_915e3 cJx4a65c_elementData_915e3 2 (some (.object "java/lang/Object")), Cond.fieldLink RJx4a65c 9 "java/util/ArrayList" "elementData" "[Ljava/lang/Object;", Cond.methodLink RX2 187 yX2_digestOfPatch, Cond.static yX2_digestOfPatch, Cond.code yX2_digestOfPatch cX2_digestOfPatch 7 (some .long), Cond.fieldLink RX2 142 "DeltaUpdater$Patch" "starts" "[I", Cond.methodLink RX2 149 yX0_tell, Cond.instanceMethod yX0_tell, Cond.selects RX0 yX0_tell yX0_tell, Cond.initialized RX0, Cond.code yX0_tell cX0_tell 6 (some .int), Cond.fieldLink RX0 30 "DeltaUpdater$Patch" "starts" "[I"]
def wsX2_digest_r3 : List Cond := [Cond.fieldLink RX0 22 "DeltaUpdater$Patch" "origins" "[I", Cond.fieldLink RX0 18 "DeltaUpdater$Patch" "goalRow" "LDeltaUpdater$Row;", Cond.methodLink RX0 57 yX1_sumOf, Cond.instanceMethod yX1_sumOf, Cond.selects RX1 yX1_sumOf yX1_sumOf, Cond.initialized RX1, Cond.code yX1_sumOf cX1_sumOf 6 (some .int), Cond.fieldLink RX1 13 "DeltaUpdater$Row" "bytes" "[I"]
def wsX2_digest : List Cond := .code yX2_digest cX2_digest 5 (some .long) :: ((wsX2_digest_r1 ++ (wsX2_digest_r2 ++ wsX2_digest_r3)) ++ wsX20 ++ wsX10 ++ wsJx4a65c0 ++ wsX00)
def wsX3_init : List Cond := .code yX3_init cX3_init 1 none :: ([.methodLink RX3 1 objectInit, .instanceMethod objectInit, .code objectInit ⟨#[0xb1]⟩ 1 none, .arrayClass .int, .fieldLink RX3 9 "DeltaUpdaterModel" "buffer" "[I", .classLink RX3 13 "[I", .fieldLink RX3 14 "DeltaUpdaterModel" "rows" "[[I", .fieldLink RX3 18 "DeltaUpdaterModel" "bases" "[[I", .fieldLink RX3 21 "DeltaUpdaterModel" "goals" "[[I", .fieldLink RX3 24 "DeltaUpdaterModel" "origins" "[[I", .fieldLink RX3 27 "DeltaUpdaterModel" "installed" "[I", .fieldLink RX3 30 "DeltaUpdaterModel" "history" "[[I"] ++ wsX30)
def wsX3_thrown : List Cond := .code yX3_thrown cX3_thrown 1 (some .int) :: ([.fieldLink RX3 33 "DeltaUpdaterModel" "thrown" "I"] ++ wsX30)
def wsX3_fail : List Cond := .code yX3_fail cX3_fail 2 (some .int) :: ([.fieldLink RX3 33 "DeltaUpdaterModel" "thrown" "I"] ++ wsX30)
def wsX3_isIn : List Cond := .code yX3_isIn cX3_isIn 3 (some .boolean) :: ([])
def wsX3_isVersion : List Cond := .code yX3_isVersion cX3_isVersion 2 (some .boolean) :: ([.fieldLink RX3 37 "DeltaUpdaterModel" "versions" "I", .methodLink RX3 40 yX3_isIn, .static yX3_isIn, .initialized RX3, .code yX3_isIn cX3_isIn 3 (some .boolean)] ++ wsX30)
def wsX3_isPatch : List Cond := .code yX3_isPatch cX3_isPatch 2 (some .boolean) :: ([.fieldLink RX3 44 "DeltaUpdaterModel" "patches" "I", .methodLink RX3 40 yX3_isIn, .static yX3_isIn, .initialized RX3, .code yX3_isIn cX3_isIn 3 (some .boolean)] ++ wsX30)
def wsX3_isSize : List Cond := .code yX3_isSize cX3_isSize 1 (some .boolean) :: ([.methodLink RX3 40 yX3_isIn, .static yX3_isIn, .initialized RX3, .code yX3_isIn cX3_isIn 3 (some .boolean)])
def wsX3_are : List Cond := .code yX3_are cX3_are 4 (some .boolean) :: ([])
def wsX3_feed : List Cond := .code yX3_feed cX3_feed 5 (some .int) :: ([.fieldLink RX3 33 "DeltaUpdaterModel" "thrown" "I", .fieldLink RX3 51 "DeltaUpdaterModel" "buffered" "I", .fieldLink RX3 9 "DeltaUpdaterModel" "buffer" "[I", .constantLong RX3 54 (255), .methodLink RX3 40 yX3_isIn, .static yX3_isIn, .initialized RX3, .code yX3_isIn cX3_isIn 3 (some .boolean), .methodLink RX3 47 yX3_fail, .instanceMethod yX3_fail, .selects RX3 yX3_fail yX3_fail, .code yX3_fail cX3_fail 2 (some .int)] ++ wsX30)
def wsX3_keep : List Cond := .code yX3_keep cX3_keep 2 (some .int) :: ([.fieldLink RX3 14 "DeltaUpdaterModel" "rows" "[[I", .fieldLink RX3 37 "DeltaUpdaterModel" "versions" "I"] ++ wsX30)
def wsX3_store : List Cond := .code yX3_store cX3_store 2 (some .int) :: ([.fieldLink RX3 33 "DeltaUpdaterModel" "thrown" "I", .fieldLink RX3 37 "DeltaUpdaterModel" "versions" "I", .fieldLink RX3 51 "DeltaUpdaterModel" "buffered" "I", .arrayClass .int, .fieldLink RX3 9 "DeltaUpdaterModel" "buffer" "[I", .methodLink RX3 56 arraycopyName, .native arraycopyName, .static arraycopyName, .initialized "java/lang/System", .methodLink RX3 47 yX3_fail, .instanceMethod yX3_fail, .selects RX3 yX3_fail yX3_fail, .initialized RX3, .code yX3_fail cX3_fail 2 (some .int), .methodLink RX3 62 yX3_keep, .instanceMethod yX3_keep, .selects RX3 yX3_keep yX3_keep, .code yX3_keep cX3_keep 2 (some .int), .fieldLink RX3 14 "DeltaUpdaterModel" "rows" "[[I"] ++ wsX30)
def wsX3_versions : List Cond := .code yX3_versions cX3_versions 1 (some .int) :: ([.fieldLink RX3 33 "DeltaUpdaterModel" "thrown" "I", .fieldLink RX3 37 "DeltaUpdaterModel" "versions" "I"] ++ wsX30)
def wsX3_length : List Cond := .code yX3_length cX3_length 2 (some .int) :: ([.fieldLink RX3 33 "DeltaUpdaterModel" "thrown" "I", .fieldLink RX3 14 "DeltaUpdaterModel" "rows" "[[I", .methodLink RX3 66 yX3_isVersion, .instanceMethod yX3_isVersion, .selects RX3 yX3_isVersion yX3_isVersion, .initialized RX3, .code yX3_isVersion cX3_isVersion 2 (some .boolean), .fieldLink RX3 37 "DeltaUpdaterModel" "versions" "I", .methodLink RX3 40 yX3_isIn, .static yX3_isIn, .code yX3_isIn cX3_isIn 3 (some .boolean), .methodLink RX3 47 yX3_fail, .instanceMethod yX3_fail, .selects RX3 yX3_fail yX3_fail, .code yX3_fail cX3_fail 2 (some .int)] ++ wsX30)
def wsX3_byteAt : List Cond := .code yX3_byteAt cX3_byteAt 3 (some .int) :: ([.fieldLink RX3 33 "DeltaUpdaterModel" "thrown" "I", .fieldLink RX3 14 "DeltaUpdaterModel" "rows" "[[I", .methodLink RX3 66 yX3_isVersion, .instanceMethod yX3_isVersion, .selects RX3 yX3_isVersion yX3_isVersion, .initialized RX3, .code yX3_isVersion cX3_isVersion 2 (some .boolean), .fieldLink RX3 37 "DeltaUpdaterModel" "versions" "I", .methodLink RX3 40 yX3_isIn, .static yX3_isIn, .code yX3_isIn cX3_isIn 3 (some .boolean), .methodLink RX3 47 yX3_fail, .instanceMethod yX3_fail, .selects RX3 yX3_fail yX3_fail, .code yX3_fail cX3_fail 2 (some .int)] ++ wsX30)
def wsX3_areSame : List Cond := .code yX3_areSame cX3_areSame 3 (some .boolean) :: ([.fieldLink RX3 33 "DeltaUpdaterModel" "thrown" "I", .fieldLink RX3 14 "DeltaUpdaterModel" "rows" "[[I", .methodLink RX3 66 yX3_isVersion, .instanceMethod yX3_isVersion, .selects RX3 yX3_isVersion yX3_isVersion, .initialized RX3, .code yX3_isVersion cX3_isVersion 2 (some .boolean), .fieldLink RX3 37 "DeltaUpdaterModel" "versions" "I", .methodLink RX3 40 yX3_isIn, .static yX3_isIn, .code yX3_isIn cX3_isIn 3 (some .boolean), .methodLink RX3 70 yX3_are, .static yX3_are, .code yX3_are cX3_are 4 (some .boolean)] ++ wsX30)
def wsX3_sumOf : List Cond := .code yX3_sumOf cX3_sumOf 6 (some .int) :: ([])
def wsX3_weakSum : List Cond := .code yX3_weakSum cX3_weakSum 4 (some .int) :: ([.fieldLink RX3 33 "DeltaUpdaterModel" "thrown" "I", .fieldLink RX3 14 "DeltaUpdaterModel" "rows" "[[I", .methodLink RX3 66 yX3_isVersion, .instanceMethod yX3_isVersion, .selects RX3 yX3_isVersion yX3_isVersion, .initialized RX3, .code yX3_isVersion cX3_isVersion 2 (some .boolean), .fieldLink RX3 37 "DeltaUpdaterModel" "versions" "I", .methodLink RX3 40 yX3_isIn, .static yX3_isIn, .code yX3_isIn cX3_isIn 3 (some .boolean), .methodLink RX3 47 yX3_fail, .instanceMethod yX3_fail, .selects RX3 yX3_fail yX3_fail, .code yX3_fail cX3_fail 2 (some .int), .methodLink RX3 74 yX3_sumOf, .static yX3_sumOf, .code yX3_sumOf cX3_sumOf 6 (some .int)] ++ wsX30)
def wsX3_isLike : List Cond := .code yX3_isLike cX3_isLike 7 (some .boolean) :: ([])
def wsX3_collisions_r1 : List Cond := [Cond.fieldLink RX3 33 "DeltaUpdaterModel" "thrown" "I", Cond.fieldLink RX3 14 "DeltaUpdaterModel" "rows" "[[I", Cond.arrayClass .int, Cond.methodLink RX3 66 yX3_isVersion, Cond.instanceMethod yX3_isVersion, Cond.selects RX3 yX3_isVersion yX3_isVersion, Cond.initialized RX3, Cond.code yX3_isVersion cX3_isVersion 2 (some .boolean), Cond.fieldLink RX3 37 "DeltaUpdaterModel" "versions" "I", Cond.methodLink RX3 40 yX3_isIn, Cond.static yX3_isIn, Cond.code yX3_isIn cX3_isIn 3 (some .boolean), Cond.methodLink RX3 47 yX3_fail, Cond.instanceMethod yX3_fail, Cond.selects RX3 yX3_fail yX3_fail, Cond.code yX3_fail cX3_fail 2 (some .int), Cond.methodLink RX3 78 yX3_isSize, Cond.static yX3_isSize, Cond.code yX3_isSize cX3_isSize 1 (some .boolean), Cond.methodLink RX3 74 yX3_sumOf, Cond.static yX3_sumOf, Cond.code yX3_sumOf cX3_sumOf 6 (some .int), Cond.methodLink RX3 81 yX3_isLike, Cond.static yX3_isLike]
def wsX3_collisions_r2 : List Cond := [Cond.code yX3_isLike cX3_isLike 7 (some .boolean)]
def wsX3_collisions : List Cond := .code yX3_collisions cX3_collisions 9 (some .int) :: ((wsX3_collisions_r1 ++ wsX3_collisions_r2) ++ wsX30)
def wsX3_blockLike : List Cond := .code yX3_blockLike cX3_blockLike 6 (some .int) :: ([.methodLink RX3 81 yX3_isLike, .static yX3_isLike, .initialized RX3, .code yX3_isLike cX3_isLike 7 (some .boolean)])
def wsX3_differentBlocks : List Cond := .code yX3_differentBlocks cX3_differentBlocks 6 (some .int) :: ([.fieldLink RX3 33 "DeltaUpdaterModel" "thrown" "I", .fieldLink RX3 14 "DeltaUpdaterModel" "rows" "[[I", .methodLink RX3 66 yX3_isVersion, .instanceMethod yX3_isVersion, .selects RX3 yX3_isVersion yX3_isVersion, .initialized RX3, .code yX3_isVersion cX3_isVersion 2 (some .boolean), .fieldLink RX3 37 "DeltaUpdaterModel" "versions" "I", .methodLink RX3 40 yX3_isIn, .static yX3_isIn, .code yX3_isIn cX3_isIn 3 (some .boolean), .methodLink RX3 47 yX3_fail, .instanceMethod yX3_fail, .selects RX3 yX3_fail yX3_fail, .code yX3_fail cX3_fail 2 (some .int), .methodLink RX3 78 yX3_isSize, .static yX3_isSize, .code yX3_isSize cX3_isSize 1 (some .boolean), .methodLink RX3 85 yX3_blockLike, .static yX3_blockLike, .code yX3_blockLike cX3_blockLike 6 (some .int), .methodLink RX3 81 yX3_isLike, .static yX3_isLike, .code yX3_isLike cX3_isLike 7 (some .boolean)] ++ wsX30)
def wsX3_add : List Cond := .code yX3_add cX3_add 4 (some .int) :: ([.fieldLink RX3 18 "DeltaUpdaterModel" "bases" "[[I", .fieldLink RX3 44 "DeltaUpdaterModel" "patches" "I", .fieldLink RX3 21 "DeltaUpdaterModel" "goals" "[[I", .fieldLink RX3 24 "DeltaUpdaterModel" "origins" "[[I"] ++ wsX30)
def wsX3_difference_r1 : List Cond := [Cond.fieldLink RX3 33 "DeltaUpdaterModel" "thrown" "I", Cond.fieldLink RX3 44 "DeltaUpdaterModel" "patches" "I", Cond.fieldLink RX3 14 "DeltaUpdaterModel" "rows" "[[I", Cond.arrayClass .int, Cond.methodLink RX3 66 yX3_isVersion, Cond.instanceMethod yX3_isVersion, Cond.selects RX3 yX3_isVersion yX3_isVersion, Cond.initialized RX3, Cond.code yX3_isVersion cX3_isVersion 2 (some .boolean), Cond.fieldLink RX3 37 "DeltaUpdaterModel" "versions" "I", Cond.methodLink RX3 40 yX3_isIn, Cond.static yX3_isIn, Cond.code yX3_isIn cX3_isIn 3 (some .boolean), Cond.methodLink RX3 47 yX3_fail, Cond.instanceMethod yX3_fail, Cond.selects RX3 yX3_fail yX3_fail, Cond.code yX3_fail cX3_fail 2 (some .int), Cond.methodLink RX3 78 yX3_isSize, Cond.static yX3_isSize, Cond.code yX3_isSize cX3_isSize 1 (some .boolean), Cond.methodLink RX3 81 yX3_isLike, Cond.static yX3_isLike, Cond.code yX3_isLike cX3_isLike 7 (some .boolean), Cond.methodLink RX3 85 yX3_blockLike]
def wsX3_difference_r2 : List Cond := [Cond.static yX3_blockLike, Cond.code yX3_blockLike cX3_blockLike 6 (some .int), Cond.methodLink RX3 89 yX3_add, Cond.instanceMethod yX3_add, Cond.selects RX3 yX3_add yX3_add, Cond.code yX3_add cX3_add 4 (some .int), Cond.fieldLink RX3 18 "DeltaUpdaterModel" "bases" "[[I", Cond.fieldLink RX3 21 "DeltaUpdaterModel" "goals" "[[I", Cond.fieldLink RX3 24 "DeltaUpdaterModel" "origins" "[[I"]
def wsX3_difference : List Cond := .code yX3_difference cX3_difference 11 (some .int) :: ((wsX3_difference_r1 ++ wsX3_difference_r2) ++ wsX30)
def wsX3_compose_r1 : List Cond := [Cond.fieldLink RX3 33 "DeltaUpdaterModel" "thrown" "I", Cond.fieldLink RX3 21 "DeltaUpdaterModel" "goals" "[[I", Cond.fieldLink RX3 18 "DeltaUpdaterModel" "bases" "[[I", Cond.fieldLink RX3 44 "DeltaUpdaterModel" "patches" "I", Cond.arrayClass .int, Cond.fieldLink RX3 24 "DeltaUpdaterModel" "origins" "[[I", Cond.methodLink RX3 93 yX3_isPatch, Cond.instanceMethod yX3_isPatch, Cond.selects RX3 yX3_isPatch yX3_isPatch, Cond.initialized RX3, Cond.code yX3_isPatch cX3_isPatch 2 (some .boolean), Cond.methodLink RX3 40 yX3_isIn, Cond.static yX3_isIn, Cond.code yX3_isIn cX3_isIn 3 (some .boolean), Cond.methodLink RX3 47 yX3_fail, Cond.instanceMethod yX3_fail, Cond.selects RX3 yX3_fail yX3_fail, Cond.code yX3_fail cX3_fail 2 (some .int), Cond.methodLink RX3 70 yX3_are, Cond.static yX3_are, Cond.code yX3_are cX3_are 4 (some .boolean), Cond.methodLink RX3 89 yX3_add, Cond.instanceMethod yX3_add, Cond.selects RX3 yX3_add yX3_add]
def wsX3_compose_r2 : List Cond := [Cond.code yX3_add cX3_add 4 (some .int)]
def wsX3_compose : List Cond := .code yX3_compose cX3_compose 5 (some .int) :: ((wsX3_compose_r1 ++ wsX3_compose_r2) ++ wsX30)
def wsX3_patches : List Cond := .code yX3_patches cX3_patches 1 (some .int) :: ([.fieldLink RX3 33 "DeltaUpdaterModel" "thrown" "I", .fieldLink RX3 44 "DeltaUpdaterModel" "patches" "I"] ++ wsX30)
def wsX3_begins : List Cond := .code yX3_begins cX3_begins 5 (some .boolean) :: ([.fieldLink RX3 24 "DeltaUpdaterModel" "origins" "[[I"] ++ wsX30)
def wsX3_many : List Cond := .code yX3_many cX3_many 4 (some .int) :: ([.fieldLink RX3 24 "DeltaUpdaterModel" "origins" "[[I", .methodLink RX3 96 yX3_begins, .instanceMethod yX3_begins, .selects RX3 yX3_begins yX3_begins, .initialized RX3, .code yX3_begins cX3_begins 5 (some .boolean)] ++ wsX30)
def wsX3_instructions : List Cond := .code yX3_instructions cX3_instructions 2 (some .int) :: ([.fieldLink RX3 33 "DeltaUpdaterModel" "thrown" "I", .methodLink RX3 93 yX3_isPatch, .instanceMethod yX3_isPatch, .selects RX3 yX3_isPatch yX3_isPatch, .initialized RX3, .code yX3_isPatch cX3_isPatch 2 (some .boolean), .fieldLink RX3 44 "DeltaUpdaterModel" "patches" "I", .methodLink RX3 40 yX3_isIn, .static yX3_isIn, .code yX3_isIn cX3_isIn 3 (some .boolean), .methodLink RX3 100 yX3_many, .instanceMethod yX3_many, .selects RX3 yX3_many yX3_many, .code yX3_many cX3_many 4 (some .int), .fieldLink RX3 24 "DeltaUpdaterModel" "origins" "[[I", .methodLink RX3 96 yX3_begins, .instanceMethod yX3_begins, .selects RX3 yX3_begins yX3_begins, .code yX3_begins cX3_begins 5 (some .boolean), .methodLink RX3 47 yX3_fail, .instanceMethod yX3_fail, .selects RX3 yX3_fail yX3_fail, .code yX3_fail cX3_fail 2 (some .int)] ++ wsX30)
def wsX3_told : List Cond := .code yX3_told cX3_told 7 (some .int) :: ([.fieldLink RX3 24 "DeltaUpdaterModel" "origins" "[[I", .fieldLink RX3 21 "DeltaUpdaterModel" "goals" "[[I", .methodLink RX3 96 yX3_begins, .instanceMethod yX3_begins, .selects RX3 yX3_begins yX3_begins, .initialized RX3, .code yX3_begins cX3_begins 5 (some .boolean), .methodLink RX3 74 yX3_sumOf, .static yX3_sumOf, .code yX3_sumOf cX3_sumOf 6 (some .int)] ++ wsX30)
def wsX3_instruction_r1 : List Cond := [Cond.fieldLink RX3 33 "DeltaUpdaterModel" "thrown" "I", Cond.methodLink RX3 93 yX3_isPatch, Cond.instanceMethod yX3_isPatch, Cond.selects RX3 yX3_isPatch yX3_isPatch, Cond.initialized RX3, Cond.code yX3_isPatch cX3_isPatch 2 (some .boolean), Cond.fieldLink RX3 44 "DeltaUpdaterModel" "patches" "I", Cond.methodLink RX3 40 yX3_isIn, Cond.static yX3_isIn, Cond.code yX3_isIn cX3_isIn 3 (some .boolean), Cond.methodLink RX3 100 yX3_many, Cond.instanceMethod yX3_many, Cond.selects RX3 yX3_many yX3_many, Cond.code yX3_many cX3_many 4 (some .int), Cond.fieldLink RX3 24 "DeltaUpdaterModel" "origins" "[[I", Cond.methodLink RX3 96 yX3_begins, Cond.instanceMethod yX3_begins, Cond.selects RX3 yX3_begins yX3_begins, Cond.code yX3_begins cX3_begins 5 (some .boolean), Cond.methodLink RX3 103 yX3_told, Cond.instanceMethod yX3_told, Cond.selects RX3 yX3_told yX3_told, Cond.code yX3_told cX3_told 7 (some .int), Cond.fieldLink RX3 21 "DeltaUpdaterModel" "goals" "[[I"]
def wsX3_instruction_r2 : List Cond := [Cond.methodLink RX3 74 yX3_sumOf, Cond.static yX3_sumOf, Cond.code yX3_sumOf cX3_sumOf 6 (some .int), Cond.methodLink RX3 47 yX3_fail, Cond.instanceMethod yX3_fail, Cond.selects RX3 yX3_fail yX3_fail, Cond.code yX3_fail cX3_fail 2 (some .int)]
def wsX3_instruction : List Cond := .code yX3_instruction cX3_instruction 4 (some .int) :: ((wsX3_instruction_r1 ++ wsX3_instruction_r2) ++ wsX30)
def wsX3_literals : List Cond := .code yX3_literals cX3_literals 7 (some .int) :: ([.fieldLink RX3 24 "DeltaUpdaterModel" "origins" "[[I"] ++ wsX30)
def wsX3_costOf : List Cond := .code yX3_costOf cX3_costOf 4 (some .int) :: ([.fieldLink RX3 24 "DeltaUpdaterModel" "origins" "[[I", .methodLink RX3 107 yX3_literals, .instanceMethod yX3_literals, .selects RX3 yX3_literals yX3_literals, .initialized RX3, .code yX3_literals cX3_literals 7 (some .int), .methodLink RX3 96 yX3_begins, .instanceMethod yX3_begins, .selects RX3 yX3_begins yX3_begins, .code yX3_begins cX3_begins 5 (some .boolean)] ++ wsX30)
def wsX3_cost_r1 : List Cond := [Cond.fieldLink RX3 33 "DeltaUpdaterModel" "thrown" "I", Cond.methodLink RX3 93 yX3_isPatch, Cond.instanceMethod yX3_isPatch, Cond.selects RX3 yX3_isPatch yX3_isPatch, Cond.initialized RX3, Cond.code yX3_isPatch cX3_isPatch 2 (some .boolean), Cond.fieldLink RX3 44 "DeltaUpdaterModel" "patches" "I", Cond.methodLink RX3 40 yX3_isIn, Cond.static yX3_isIn, Cond.code yX3_isIn cX3_isIn 3 (some .boolean), Cond.methodLink RX3 110 yX3_costOf, Cond.instanceMethod yX3_costOf, Cond.selects RX3 yX3_costOf yX3_costOf, Cond.code yX3_costOf cX3_costOf 4 (some .int), Cond.fieldLink RX3 24 "DeltaUpdaterModel" "origins" "[[I", Cond.methodLink RX3 107 yX3_literals, Cond.instanceMethod yX3_literals, Cond.selects RX3 yX3_literals yX3_literals, Cond.code yX3_literals cX3_literals 7 (some .int), Cond.methodLink RX3 96 yX3_begins, Cond.instanceMethod yX3_begins, Cond.selects RX3 yX3_begins yX3_begins, Cond.code yX3_begins cX3_begins 5 (some .boolean), Cond.methodLink RX3 47 yX3_fail]
def wsX3_cost_r2 : List Cond := [Cond.instanceMethod yX3_fail, Cond.selects RX3 yX3_fail yX3_fail, Cond.code yX3_fail cX3_fail 2 (some .int)]
def wsX3_cost : List Cond := .code yX3_cost cX3_cost 2 (some .int) :: ((wsX3_cost_r1 ++ wsX3_cost_r2) ++ wsX30)
def wsX3_newness : List Cond := .code yX3_newness cX3_newness 2 (some .double) :: ([.fieldLink RX3 33 "DeltaUpdaterModel" "thrown" "I", .fieldLink RX3 21 "DeltaUpdaterModel" "goals" "[[I", .methodLink RX3 93 yX3_isPatch, .instanceMethod yX3_isPatch, .selects RX3 yX3_isPatch yX3_isPatch, .initialized RX3, .code yX3_isPatch cX3_isPatch 2 (some .boolean), .fieldLink RX3 44 "DeltaUpdaterModel" "patches" "I", .methodLink RX3 40 yX3_isIn, .static yX3_isIn, .code yX3_isIn cX3_isIn 3 (some .boolean), .methodLink RX3 107 yX3_literals, .instanceMethod yX3_literals, .selects RX3 yX3_literals yX3_literals, .code yX3_literals cX3_literals 7 (some .int), .fieldLink RX3 24 "DeltaUpdaterModel" "origins" "[[I"] ++ wsX30)
def wsX3_apply_r1 : List Cond := [Cond.fieldLink RX3 33 "DeltaUpdaterModel" "thrown" "I", Cond.fieldLink RX3 14 "DeltaUpdaterModel" "rows" "[[I", Cond.fieldLink RX3 18 "DeltaUpdaterModel" "bases" "[[I", Cond.fieldLink RX3 37 "DeltaUpdaterModel" "versions" "I", Cond.fieldLink RX3 21 "DeltaUpdaterModel" "goals" "[[I", Cond.methodLink RX3 93 yX3_isPatch, Cond.instanceMethod yX3_isPatch, Cond.selects RX3 yX3_isPatch yX3_isPatch, Cond.initialized RX3, Cond.code yX3_isPatch cX3_isPatch 2 (some .boolean), Cond.fieldLink RX3 44 "DeltaUpdaterModel" "patches" "I", Cond.methodLink RX3 40 yX3_isIn, Cond.static yX3_isIn, Cond.code yX3_isIn cX3_isIn 3 (some .boolean), Cond.methodLink RX3 66 yX3_isVersion, Cond.instanceMethod yX3_isVersion, Cond.selects RX3 yX3_isVersion yX3_isVersion, Cond.code yX3_isVersion cX3_isVersion 2 (some .boolean), Cond.methodLink RX3 47 yX3_fail, Cond.instanceMethod yX3_fail, Cond.selects RX3 yX3_fail yX3_fail, Cond.code yX3_fail cX3_fail 2 (some .int), Cond.methodLink RX3 70 yX3_are, Cond.static yX3_are]
def wsX3_apply_r2 : List Cond := [Cond.code yX3_are cX3_are 4 (some .boolean), Cond.methodLink RX3 62 yX3_keep, Cond.instanceMethod yX3_keep, Cond.selects RX3 yX3_keep yX3_keep, Cond.code yX3_keep cX3_keep 2 (some .int)]
def wsX3_apply : List Cond := .code yX3_apply cX3_apply 3 (some .int) :: ((wsX3_apply_r1 ++ wsX3_apply_r2) ++ wsX30)
def wsX3_lead : List Cond := .code yX3_lead cX3_lead 9 (some .int) :: ([.fieldLink RX3 44 "DeltaUpdaterModel" "patches" "I", .arrayClass .int, .fieldLink RX3 18 "DeltaUpdaterModel" "bases" "[[I", .fieldLink RX3 21 "DeltaUpdaterModel" "goals" "[[I", .methodLink RX3 70 yX3_are, .static yX3_are, .initialized RX3, .code yX3_are cX3_are 4 (some .boolean), .methodLink RX3 110 yX3_costOf, .instanceMethod yX3_costOf, .selects RX3 yX3_costOf yX3_costOf, .code yX3_costOf cX3_costOf 4 (some .int), .fieldLink RX3 24 "DeltaUpdaterModel" "origins" "[[I", .methodLink RX3 107 yX3_literals, .instanceMethod yX3_literals, .selects RX3 yX3_literals yX3_literals, .code yX3_literals cX3_literals 7 (some .int), .methodLink RX3 96 yX3_begins, .instanceMethod yX3_begins, .selects RX3 yX3_begins yX3_begins, .code yX3_begins cX3_begins 5 (some .boolean)] ++ wsX30)
def wsX3_steps_r1 : List Cond := [Cond.fieldLink RX3 33 "DeltaUpdaterModel" "thrown" "I", Cond.fieldLink RX3 14 "DeltaUpdaterModel" "rows" "[[I", Cond.methodLink RX3 66 yX3_isVersion, Cond.instanceMethod yX3_isVersion, Cond.selects RX3 yX3_isVersion yX3_isVersion, Cond.initialized RX3, Cond.code yX3_isVersion cX3_isVersion 2 (some .boolean), Cond.fieldLink RX3 37 "DeltaUpdaterModel" "versions" "I", Cond.methodLink RX3 40 yX3_isIn, Cond.static yX3_isIn, Cond.code yX3_isIn cX3_isIn 3 (some .boolean), Cond.methodLink RX3 113 yX3_lead, Cond.instanceMethod yX3_lead, Cond.selects RX3 yX3_lead yX3_lead, Cond.code yX3_lead cX3_lead 9 (some .int), Cond.fieldLink RX3 44 "DeltaUpdaterModel" "patches" "I", Cond.arrayClass .int, Cond.fieldLink RX3 18 "DeltaUpdaterModel" "bases" "[[I", Cond.fieldLink RX3 21 "DeltaUpdaterModel" "goals" "[[I", Cond.methodLink RX3 70 yX3_are, Cond.static yX3_are, Cond.code yX3_are cX3_are 4 (some .boolean), Cond.methodLink RX3 110 yX3_costOf, Cond.instanceMethod yX3_costOf]
def wsX3_steps_r2 : List Cond := [Cond.selects RX3 yX3_costOf yX3_costOf, Cond.code yX3_costOf cX3_costOf 4 (some .int), Cond.fieldLink RX3 24 "DeltaUpdaterModel" "origins" "[[I", Cond.methodLink RX3 107 yX3_literals, Cond.instanceMethod yX3_literals, Cond.selects RX3 yX3_literals yX3_literals, Cond.code yX3_literals cX3_literals 7 (some .int), Cond.methodLink RX3 96 yX3_begins, Cond.instanceMethod yX3_begins, Cond.selects RX3 yX3_begins yX3_begins, Cond.code yX3_begins cX3_begins 5 (some .boolean), Cond.methodLink RX3 47 yX3_fail, Cond.instanceMethod yX3_fail, Cond.selects RX3 yX3_fail yX3_fail, Cond.code yX3_fail cX3_fail 2 (some .int)]
def wsX3_steps : List Cond := .code yX3_steps cX3_steps 3 (some .int) :: ((wsX3_steps_r1 ++ wsX3_steps_r2) ++ wsX30)
def wsX3_leastCost_r1 : List Cond := [Cond.fieldLink RX3 33 "DeltaUpdaterModel" "thrown" "I", Cond.fieldLink RX3 14 "DeltaUpdaterModel" "rows" "[[I", Cond.methodLink RX3 66 yX3_isVersion, Cond.instanceMethod yX3_isVersion, Cond.selects RX3 yX3_isVersion yX3_isVersion, Cond.initialized RX3, Cond.code yX3_isVersion cX3_isVersion 2 (some .boolean), Cond.fieldLink RX3 37 "DeltaUpdaterModel" "versions" "I", Cond.methodLink RX3 40 yX3_isIn, Cond.static yX3_isIn, Cond.code yX3_isIn cX3_isIn 3 (some .boolean), Cond.methodLink RX3 113 yX3_lead, Cond.instanceMethod yX3_lead, Cond.selects RX3 yX3_lead yX3_lead, Cond.code yX3_lead cX3_lead 9 (some .int), Cond.fieldLink RX3 44 "DeltaUpdaterModel" "patches" "I", Cond.arrayClass .int, Cond.fieldLink RX3 18 "DeltaUpdaterModel" "bases" "[[I", Cond.fieldLink RX3 21 "DeltaUpdaterModel" "goals" "[[I", Cond.methodLink RX3 70 yX3_are, Cond.static yX3_are, Cond.code yX3_are cX3_are 4 (some .boolean), Cond.methodLink RX3 110 yX3_costOf, Cond.instanceMethod yX3_costOf]
def wsX3_leastCost_r2 : List Cond := [Cond.selects RX3 yX3_costOf yX3_costOf, Cond.code yX3_costOf cX3_costOf 4 (some .int), Cond.fieldLink RX3 24 "DeltaUpdaterModel" "origins" "[[I", Cond.methodLink RX3 107 yX3_literals, Cond.instanceMethod yX3_literals, Cond.selects RX3 yX3_literals yX3_literals, Cond.code yX3_literals cX3_literals 7 (some .int), Cond.methodLink RX3 96 yX3_begins, Cond.instanceMethod yX3_begins, Cond.selects RX3 yX3_begins yX3_begins, Cond.code yX3_begins cX3_begins 5 (some .boolean), Cond.methodLink RX3 47 yX3_fail, Cond.instanceMethod yX3_fail, Cond.selects RX3 yX3_fail yX3_fail, Cond.code yX3_fail cX3_fail 2 (some .int)]
def wsX3_leastCost : List Cond := .code yX3_leastCost cX3_leastCost 3 (some .int) :: ((wsX3_leastCost_r1 ++ wsX3_leastCost_r2) ++ wsX30)
def wsX3_install : List Cond := .code yX3_install cX3_install 3 (some .int) :: ([.fieldLink RX3 117 "DeltaUpdaterModel" "remembered" "I", .fieldLink RX3 30 "DeltaUpdaterModel" "history" "[[I", .fieldLink RX3 27 "DeltaUpdaterModel" "installed" "[I"] ++ wsX30)
def wsX3_installVersion : List Cond := .code yX3_installVersion cX3_installVersion 2 (some .int) :: ([.fieldLink RX3 33 "DeltaUpdaterModel" "thrown" "I", .fieldLink RX3 14 "DeltaUpdaterModel" "rows" "[[I", .methodLink RX3 66 yX3_isVersion, .instanceMethod yX3_isVersion, .selects RX3 yX3_isVersion yX3_isVersion, .initialized RX3, .code yX3_isVersion cX3_isVersion 2 (some .boolean), .fieldLink RX3 37 "DeltaUpdaterModel" "versions" "I", .methodLink RX3 40 yX3_isIn, .static yX3_isIn, .code yX3_isIn cX3_isIn 3 (some .boolean), .methodLink RX3 120 yX3_install, .instanceMethod yX3_install, .selects RX3 yX3_install yX3_install, .code yX3_install cX3_install 3 (some .int), .fieldLink RX3 117 "DeltaUpdaterModel" "remembered" "I", .fieldLink RX3 30 "DeltaUpdaterModel" "history" "[[I", .fieldLink RX3 27 "DeltaUpdaterModel" "installed" "[I", .methodLink RX3 47 yX3_fail, .instanceMethod yX3_fail, .selects RX3 yX3_fail yX3_fail, .code yX3_fail cX3_fail 2 (some .int)] ++ wsX30)
def wsX3_installPatch_r1 : List Cond := [Cond.fieldLink RX3 33 "DeltaUpdaterModel" "thrown" "I", Cond.fieldLink RX3 27 "DeltaUpdaterModel" "installed" "[I", Cond.fieldLink RX3 18 "DeltaUpdaterModel" "bases" "[[I", Cond.fieldLink RX3 21 "DeltaUpdaterModel" "goals" "[[I", Cond.methodLink RX3 93 yX3_isPatch, Cond.instanceMethod yX3_isPatch, Cond.selects RX3 yX3_isPatch yX3_isPatch, Cond.initialized RX3, Cond.code yX3_isPatch cX3_isPatch 2 (some .boolean), Cond.fieldLink RX3 44 "DeltaUpdaterModel" "patches" "I", Cond.methodLink RX3 40 yX3_isIn, Cond.static yX3_isIn, Cond.code yX3_isIn cX3_isIn 3 (some .boolean), Cond.methodLink RX3 47 yX3_fail, Cond.instanceMethod yX3_fail, Cond.selects RX3 yX3_fail yX3_fail, Cond.code yX3_fail cX3_fail 2 (some .int), Cond.methodLink RX3 70 yX3_are, Cond.static yX3_are, Cond.code yX3_are cX3_are 4 (some .boolean), Cond.methodLink RX3 120 yX3_install, Cond.instanceMethod yX3_install, Cond.selects RX3 yX3_install yX3_install, Cond.code yX3_install cX3_install 3 (some .int)]
def wsX3_installPatch_r2 : List Cond := [Cond.fieldLink RX3 117 "DeltaUpdaterModel" "remembered" "I", Cond.fieldLink RX3 30 "DeltaUpdaterModel" "history" "[[I"]
def wsX3_installPatch : List Cond := .code yX3_installPatch cX3_installPatch 2 (some .int) :: ((wsX3_installPatch_r1 ++ wsX3_installPatch_r2) ++ wsX30)
def wsX3_rollBack : List Cond := .code yX3_rollBack cX3_rollBack 1 (some .int) :: ([.fieldLink RX3 33 "DeltaUpdaterModel" "thrown" "I", .fieldLink RX3 117 "DeltaUpdaterModel" "remembered" "I", .fieldLink RX3 30 "DeltaUpdaterModel" "history" "[[I", .fieldLink RX3 27 "DeltaUpdaterModel" "installed" "[I", .methodLink RX3 47 yX3_fail, .instanceMethod yX3_fail, .selects RX3 yX3_fail yX3_fail, .initialized RX3, .code yX3_fail cX3_fail 2 (some .int)] ++ wsX30)
def wsX3_isInstalled : List Cond := .code yX3_isInstalled cX3_isInstalled 2 (some .boolean) :: ([.fieldLink RX3 33 "DeltaUpdaterModel" "thrown" "I", .fieldLink RX3 27 "DeltaUpdaterModel" "installed" "[I", .fieldLink RX3 14 "DeltaUpdaterModel" "rows" "[[I", .methodLink RX3 66 yX3_isVersion, .instanceMethod yX3_isVersion, .selects RX3 yX3_isVersion yX3_isVersion, .initialized RX3, .code yX3_isVersion cX3_isVersion 2 (some .boolean), .fieldLink RX3 37 "DeltaUpdaterModel" "versions" "I", .methodLink RX3 40 yX3_isIn, .static yX3_isIn, .code yX3_isIn cX3_isIn 3 (some .boolean), .methodLink RX3 70 yX3_are, .static yX3_are, .code yX3_are cX3_are 4 (some .boolean)] ++ wsX30)
def wsX3_installedLength : List Cond := .code yX3_installedLength cX3_installedLength 1 (some .int) :: ([.fieldLink RX3 33 "DeltaUpdaterModel" "thrown" "I", .fieldLink RX3 27 "DeltaUpdaterModel" "installed" "[I"] ++ wsX30)
def wsX3_with : List Cond := .code yX3_with cX3_with 7 (some .long) :: ([.constantLong RX3 123 (31)])
def wsX3_digest_r1 : List Cond := [Cond.fieldLink RX3 33 "DeltaUpdaterModel" "thrown" "I", Cond.constantLong RX3 125 (233), Cond.fieldLink RX3 9 "DeltaUpdaterModel" "buffer" "[I", Cond.fieldLink RX3 51 "DeltaUpdaterModel" "buffered" "I", Cond.constantLong RX3 123 (31), Cond.fieldLink RX3 37 "DeltaUpdaterModel" "versions" "I", Cond.fieldLink RX3 14 "DeltaUpdaterModel" "rows" "[[I", Cond.fieldLink RX3 44 "DeltaUpdaterModel" "patches" "I", Cond.fieldLink RX3 27 "DeltaUpdaterModel" "installed" "[I", Cond.fieldLink RX3 117 "DeltaUpdaterModel" "remembered" "I", Cond.methodLink RX3 127 yX3_with, Cond.static yX3_with, Cond.initialized RX3, Cond.code yX3_with cX3_with 7 (some .long), Cond.methodLink RX3 100 yX3_many, Cond.instanceMethod yX3_many, Cond.selects RX3 yX3_many yX3_many, Cond.code yX3_many cX3_many 4 (some .int), Cond.fieldLink RX3 24 "DeltaUpdaterModel" "origins" "[[I", Cond.methodLink RX3 96 yX3_begins, Cond.instanceMethod yX3_begins, Cond.selects RX3 yX3_begins yX3_begins, Cond.code yX3_begins cX3_begins 5 (some .boolean), Cond.methodLink RX3 103 yX3_told]
def wsX3_digest_r2 : List Cond := [Cond.instanceMethod yX3_told, Cond.selects RX3 yX3_told yX3_told, Cond.code yX3_told cX3_told 7 (some .int), Cond.fieldLink RX3 21 "DeltaUpdaterModel" "goals" "[[I", Cond.methodLink RX3 74 yX3_sumOf, Cond.static yX3_sumOf, Cond.code yX3_sumOf cX3_sumOf 6 (some .int)]
def wsX3_digest : List Cond := .code yX3_digest cX3_digest 7 (some .long) :: ((wsX3_digest_r1 ++ wsX3_digest_r2) ++ wsX30)
def wsJ9_max_7cf53 : List Cond := .code yJ9_max_7cf53 cJ9_max_7cf53 2 (some .int) :: ([])
def wsJ9_min_7cf53 : List Cond := .code yJ9_min_7cf53 cJ9_min_7cf53 2 (some .int) :: ([])
def wsL_feed : List Cond := .codeWith yL_feed cL_feed 6 (some .int) [(0, 11, 14, 13), (0, 11, 18, 15)] :: ([.classLink RL 13 "java/lang/IllegalArgumentException", .classLink RL 15 "java/lang/IllegalStateException", .methodLink RL 7 yX2_feed, .instanceMethod yX2_feed, .selects RX2 yX2_feed yX2_feed, .initialized RX2, .code yX2_feed cX2_feed 5 (some .int), .classLink RX2 45 "java/lang/IllegalArgumentException", .initialized "java/lang/IllegalArgumentException", .classLink RX2 52 "java/lang/IllegalStateException", .initialized "java/lang/IllegalStateException", .fieldLink RX2 13 "DeltaUpdater" "buffered" "I", .fieldLink RX2 9 "DeltaUpdater" "buffer" "[I"] ++ wsX20 ++ (vx_atS RX2 49 "java/lang/IllegalArgumentException" ["java/lang/RuntimeException", "java/lang/Exception"]).filter goodWord ++ (vx_atS RX2 56 "java/lang/IllegalStateException" ["java/lang/RuntimeException", "java/lang/Exception"]).filter goodWord)
def wsL_store_r1 : List Cond := [Cond.classLink RL 15 "java/lang/IllegalStateException", Cond.methodLink RL 17 yX2_store, Cond.instanceMethod yX2_store, Cond.selects RX2 yX2_store yX2_store, Cond.initialized RX2, Cond.code yX2_store cX2_store 1 (some .int), Cond.fieldLink RX2 20 "DeltaUpdater" "stored" "Ljava/util/ArrayList;", Cond.classLink RX2 27 RX1, Cond.instantiable RX1 1, Cond.initialized RX1, Cond.fieldLink RX2 9 "DeltaUpdater" "buffer" "[I", Cond.fieldLink RX2 13 "DeltaUpdater" "buffered" "I", Cond.methodLink RX2 57 yX2_checkRoomForVersion, Cond.instanceMethod yX2_checkRoomForVersion, Cond.selects RX2 yX2_checkRoomForVersion yX2_checkRoomForVersion, Cond.code yX2_checkRoomForVersion cX2_checkRoomForVersion 1 none, Cond.classLink RX2 52 "java/lang/IllegalStateException", Cond.initialized "java/lang/IllegalStateException", Cond.methodLink RX2 64 yJx4a65c_size_8abf5, Cond.instanceMethod yJx4a65c_size_8abf5, Cond.selects RJx4a65c yJx4a65c_size_8abf5 yJx4a65c_size_8abf5, Cond.initialized RJx4a65c, Cond.code yJx4a65c_size_8abf5 cJx4a65c_size_8abf5 1 (some .int), Cond.fieldLink RJx4a65c 48 "java/util/ArrayList" "size" "I"]
def wsL_store_r2 : List Cond := [Cond.methodLink RX2 29 yX1_init, Cond.instanceMethod yX1_init, Cond.code yX1_init cX1_init 3 none, Cond.methodLink RX1 1 objectInit, Cond.instanceMethod objectInit, Cond.code objectInit ⟨#[0xb1]⟩ 1 none, Cond.fieldLink RX1 13 "DeltaUpdater$Row" "bytes" "[I", Cond.methodLink RX1 7 yJ7_copyOf_59c91, Cond.static yJ7_copyOf_59c91, Cond.initialized RJ7, Cond.code yJ7_copyOf_59c91 cJ7_copyOf_59c91 3 (some (.array .int)), Cond.methodLink RJ7 316 ⟨"[I", "clone", "()Ljava/lang/Object;"⟩, Cond.sameMethod "[I" "java/lang/Object" "clone" "()Ljava/lang/Object;", Cond.native ⟨"java/lang/Object", "clone", "()Ljava/lang/Object;"⟩, Cond.instanceMethod ⟨"java/lang/Object", "clone", "()Ljava/lang/Object;"⟩, Cond.selects "[I" ⟨"[I", "clone", "()Ljava/lang/Object;"⟩ ⟨"java/lang/Object", "clone", "()Ljava/lang/Object;"⟩, Cond.classLink RJ7 317 "[I", Cond.arrayClass .int, Cond.methodLink RJ7 304 Lib.Math.min.name, Cond.static Lib.Math.min.name, Cond.initialized "java/lang/Math", Cond.code Lib.Math.min.name Lib.Math.min.code 2 (some .int), Cond.methodLink RJ7 150 arraycopyName, Cond.native arraycopyName]
def wsL_store_r3 : List Cond := [Cond.static arraycopyName, Cond.initialized "java/lang/System", Cond.methodLink RX2 60 yJx4a65c_add_9ea2d, Cond.instanceMethod yJx4a65c_add_9ea2d, Cond.selects RJx4a65c yJx4a65c_add_9ea2d yJx4a65c_add_9ea2d, Cond.code yJx4a65c_add_9ea2d cJx4a65c_add_9ea2d 2 (some .boolean), Cond.fieldLink RJx4a65c 63 "java/util/ArrayList" "modCount" "I", Cond.sameField "java/util/ArrayList" "java/util/AbstractList" "modCount" "I", Cond.fieldLink RJx4a65c 9 "java/util/ArrayList" "elementData" "[Ljava/lang/Object;", Cond.methodLink RJx4a65c 131 yJx4a65c_add_72be8, Cond.instanceMethod yJx4a65c_add_72be8, Cond.selects RJx4a65c yJx4a65c_add_72be8 yJx4a65c_add_72be8, Cond.code yJx4a65c_add_72be8 cJx4a65c_add_72be8 4 none, Cond.methodLink RJx4a65c 129 yJx4a65c_grow_d5877, Cond.instanceMethod yJx4a65c_grow_d5877, Cond.selects RJx4a65c yJx4a65c_grow_d5877 yJx4a65c_grow_d5877, Cond.code yJx4a65c_grow_d5877 cJx4a65c_grow_d5877 1 (some (.array (.object "java/lang/Object"))), Cond.methodLink RJx4a65c 69 yJx4a65c_grow_92f84, Cond.instanceMethod yJx4a65c_grow_92f84, Cond.selects RJx4a65c yJx4a65c_grow_92f84 yJx4a65c_grow_92f84, Cond.code yJx4a65c_grow_92f84 cJx4a65c_grow_92f84 4 (some (.array (.object "java/lang/Object"))), Cond.fieldLink RJx4a65c 39 "java/util/ArrayList" "DEFAULTCAPACITY_EMPTY_ELEMENTDATA" "[Ljava/lang/Object;", Cond.methodLink RJx4a65c 79 Lib.Math.max.name, Cond.static Lib.Math.max.name]
def wsL_store_r4 : List Cond := [Cond.code Lib.Math.max.name Lib.Math.max.code 2 (some .int), Cond.classLink RJx4a65c 7 "java/lang/Object", Cond.methodLink RJx4a65c 73 yJ8_newLength_cabcc, Cond.static yJ8_newLength_cabcc, Cond.initialized RJ8, Cond.code yJ8_newLength_cabcc cJ8_newLength_cabcc 4 (some .int), Cond.methodLink RJ8 194 Lib.Math.max.name, Cond.constant RJ8 200 (2147483639), Cond.methodLink RJ8 201 yJ8_hugeLength_7cf53, Cond.static yJ8_hugeLength_7cf53, Cond.code yJ8_hugeLength_7cf53 cJ8_hugeLength_7cf53 3 (some .int), Cond.methodLink RJx4a65c 66 yJ7_copyOf_1904c, Cond.static yJ7_copyOf_1904c, Cond.code yJ7_copyOf_1904c cJ7_copyOf_1904c 2 (some (.array (.object "java/lang/Object"))), Cond.methodLink RJ7 86 ⟨"java/lang/Object", "getClass", "()Ljava/lang/Class;"⟩, Cond.selects "[Ljava/lang/Object;" ⟨"java/lang/Object", "getClass", "()Ljava/lang/Class;"⟩ ⟨"java/lang/Object", "getClass", "()Ljava/lang/Class;"⟩, Cond.instanceMethod ⟨"java/lang/Object", "getClass", "()Ljava/lang/Class;"⟩, Cond.native ⟨"java/lang/Object", "getClass", "()Ljava/lang/Class;"⟩, Cond.methodLink RJ7 300 yJ7_copyOf_6403c, Cond.static yJ7_copyOf_6403c, Cond.code yJ7_copyOf_6403c cJ7_copyOf_6403c 4 (some (.array (.object "java/lang/Object"))), Cond.classLink RJ7 110 "[Ljava/lang/Object;", Cond.classLink RJ7 2 "java/lang/Object"]
def wsL_store : List Cond := .codeWith yL_store cL_store 3 (some .int) [(0, 8, 11, 15)] :: ((wsL_store_r1 ++ (wsL_store_r2 ++ (wsL_store_r3 ++ wsL_store_r4))) ++ wsX20 ++ wsX10 ++ wsJx4a65c0 ++ (vx_atS RX2 56 "java/lang/IllegalStateException" ["java/lang/RuntimeException", "java/lang/Exception"]).filter goodWord)
def wsL_length_r1 : List Cond := [Cond.classLink RL 25 "java/lang/IndexOutOfBoundsException", Cond.methodLink RL 21 yX2_length, Cond.instanceMethod yX2_length, Cond.selects RX2 yX2_length yX2_length, Cond.initialized RX2, Cond.code yX2_length cX2_length 2 (some .int), Cond.fieldLink RX2 72 "DeltaUpdater$Row" "bytes" "[I", Cond.methodLink RX2 68 yX2_rowOf, Cond.instanceMethod yX2_rowOf, Cond.selects RX2 yX2_rowOf yX2_rowOf, Cond.code yX2_rowOf cX2_rowOf 2 (some (.object "DeltaUpdater$Row")), Cond.classLink RX2 75 "java/lang/IndexOutOfBoundsException", Cond.initialized "java/lang/IndexOutOfBoundsException", Cond.fieldLink RX2 20 "DeltaUpdater" "stored" "Ljava/util/ArrayList;", Cond.classLink RX2 27 "DeltaUpdater$Row", Cond.methodLink RX2 64 yJx4a65c_size_8abf5, Cond.instanceMethod yJx4a65c_size_8abf5, Cond.selects RJx4a65c yJx4a65c_size_8abf5 yJx4a65c_size_8abf5, Cond.initialized RJx4a65c, Cond.code yJx4a65c_size_8abf5 cJx4a65c_size_8abf5 1 (some .int), Cond.fieldLink RJx4a65c 48 "java/util/ArrayList" "size" "I", Cond.methodLink RX2 172 yJx4a65c_get_915e3, Cond.instanceMethod yJx4a65c_get_915e3, Cond.selects RJx4a65c yJx4a65c_get_915e3 yJx4a65c_get_915e3]
def wsL_length_r2 : List Cond := [Cond.code yJx4a65c_get_915e3 cJx4a65c_get_915e3 2 (some (.object "java/lang/Object")), Cond.methodLink RJx4a65c 118 yJ15_checkIndex_7cf53, Cond.static yJ15_checkIndex_7cf53, Cond.initialized RJ15, Cond.code yJ15_checkIndex_7cf53 cJ15_checkIndex_7cf53 2 (some .int), Cond.methodLink RJ15 105 yJ3_checkIndex_8e157, Cond.static yJ3_checkIndex_8e157, Cond.initialized RJ3, Cond.code yJ3_checkIndex_8e157 cJ3_checkIndex_8e157 3 (some .int), Cond.methodLink RJx4a65c 123 yJx4a65c_elementData_915e3, Cond.instanceMethod yJx4a65c_elementData_915e3, Cond.selects RJx4a65c yJx4a65c_elementData_915e3 yJx4a65c_elementData_915e3, Cond.code yJx4a65c_elementData_915e3 cJx4a65c_elementData_915e3 2 (some (.object "java/lang/Object")), Cond.fieldLink RJx4a65c 9 "java/util/ArrayList" "elementData" "[Ljava/lang/Object;"]
def wsL_length : List Cond := .codeWith yL_length cL_length 4 (some .int) [(0, 9, 12, 25)] :: ((wsL_length_r1 ++ wsL_length_r2) ++ wsX10 ++ wsX20 ++ wsJx4a65c0 ++ (vx_atS RX2 79 "java/lang/IndexOutOfBoundsException" ["java/lang/RuntimeException", "java/lang/Exception"]).filter goodWord)
def wsL_byteAt_r1 : List Cond := [Cond.classLink RL 25 "java/lang/IndexOutOfBoundsException", Cond.methodLink RL 27 yX2_byteAt, Cond.instanceMethod yX2_byteAt, Cond.selects RX2 yX2_byteAt yX2_byteAt, Cond.initialized RX2, Cond.code yX2_byteAt cX2_byteAt 4 (some .int), Cond.classLink RX2 75 "java/lang/IndexOutOfBoundsException", Cond.initialized "java/lang/IndexOutOfBoundsException", Cond.fieldLink RX2 72 "DeltaUpdater$Row" "bytes" "[I", Cond.methodLink RX2 68 yX2_rowOf, Cond.instanceMethod yX2_rowOf, Cond.selects RX2 yX2_rowOf yX2_rowOf, Cond.code yX2_rowOf cX2_rowOf 2 (some (.object "DeltaUpdater$Row")), Cond.fieldLink RX2 20 "DeltaUpdater" "stored" "Ljava/util/ArrayList;", Cond.classLink RX2 27 "DeltaUpdater$Row", Cond.methodLink RX2 64 yJx4a65c_size_8abf5, Cond.instanceMethod yJx4a65c_size_8abf5, Cond.selects RJx4a65c yJx4a65c_size_8abf5 yJx4a65c_size_8abf5, Cond.initialized RJx4a65c, Cond.code yJx4a65c_size_8abf5 cJx4a65c_size_8abf5 1 (some .int), Cond.fieldLink RJx4a65c 48 "java/util/ArrayList" "size" "I", Cond.methodLink RX2 172 yJx4a65c_get_915e3, Cond.instanceMethod yJx4a65c_get_915e3, Cond.selects RJx4a65c yJx4a65c_get_915e3 yJx4a65c_get_915e3]
def wsL_byteAt_r2 : List Cond := [Cond.code yJx4a65c_get_915e3 cJx4a65c_get_915e3 2 (some (.object "java/lang/Object")), Cond.methodLink RJx4a65c 118 yJ15_checkIndex_7cf53, Cond.static yJ15_checkIndex_7cf53, Cond.initialized RJ15, Cond.code yJ15_checkIndex_7cf53 cJ15_checkIndex_7cf53 2 (some .int), Cond.methodLink RJ15 105 yJ3_checkIndex_8e157, Cond.static yJ3_checkIndex_8e157, Cond.initialized RJ3, Cond.code yJ3_checkIndex_8e157 cJ3_checkIndex_8e157 3 (some .int), Cond.methodLink RJx4a65c 123 yJx4a65c_elementData_915e3, Cond.instanceMethod yJx4a65c_elementData_915e3, Cond.selects RJx4a65c yJx4a65c_elementData_915e3 yJx4a65c_elementData_915e3, Cond.code yJx4a65c_elementData_915e3 cJx4a65c_elementData_915e3 2 (some (.object "java/lang/Object")), Cond.fieldLink RJx4a65c 9 "java/util/ArrayList" "elementData" "[Ljava/lang/Object;"]
def wsL_byteAt : List Cond := .codeWith yL_byteAt cL_byteAt 5 (some .int) [(0, 10, 13, 25)] :: ((wsL_byteAt_r1 ++ wsL_byteAt_r2) ++ wsX10 ++ wsX20 ++ wsJx4a65c0 ++ (vx_atS RX2 79 "java/lang/IndexOutOfBoundsException" ["java/lang/RuntimeException", "java/lang/Exception"]).filter goodWord)
def wsL_areSame_r1 : List Cond := [Cond.classLink RL 25 "java/lang/IndexOutOfBoundsException", Cond.methodLink RL 31 yX2_areSame, Cond.instanceMethod yX2_areSame, Cond.selects RX2 yX2_areSame yX2_areSame, Cond.initialized RX2, Cond.code yX2_areSame cX2_areSame 3 (some .boolean), Cond.methodLink RX2 68 yX2_rowOf, Cond.instanceMethod yX2_rowOf, Cond.selects RX2 yX2_rowOf yX2_rowOf, Cond.code yX2_rowOf cX2_rowOf 2 (some (.object "DeltaUpdater$Row")), Cond.classLink RX2 75 "java/lang/IndexOutOfBoundsException", Cond.initialized "java/lang/IndexOutOfBoundsException", Cond.fieldLink RX2 20 "DeltaUpdater" "stored" "Ljava/util/ArrayList;", Cond.classLink RX2 27 "DeltaUpdater$Row", Cond.methodLink RX2 64 yJx4a65c_size_8abf5, Cond.instanceMethod yJx4a65c_size_8abf5, Cond.selects RJx4a65c yJx4a65c_size_8abf5 yJx4a65c_size_8abf5, Cond.initialized RJx4a65c, Cond.code yJx4a65c_size_8abf5 cJx4a65c_size_8abf5 1 (some .int), Cond.fieldLink RJx4a65c 48 "java/util/ArrayList" "size" "I", Cond.methodLink RX2 172 yJx4a65c_get_915e3, Cond.instanceMethod yJx4a65c_get_915e3, Cond.selects RJx4a65c yJx4a65c_get_915e3 yJx4a65c_get_915e3, Cond.code yJx4a65c_get_915e3 cJx4a65c_get_915e3 2 (some (.object "java/lang/Object"))]
def wsL_areSame_r2 : List Cond := [Cond.methodLink RJx4a65c 118 yJ15_checkIndex_7cf53, Cond.static yJ15_checkIndex_7cf53, Cond.initialized RJ15, Cond.code yJ15_checkIndex_7cf53 cJ15_checkIndex_7cf53 2 (some .int), Cond.methodLink RJ15 105 yJ3_checkIndex_8e157, Cond.static yJ3_checkIndex_8e157, Cond.initialized RJ3, Cond.code yJ3_checkIndex_8e157 cJ3_checkIndex_8e157 3 (some .int), Cond.methodLink RJx4a65c 123 yJx4a65c_elementData_915e3, Cond.instanceMethod yJx4a65c_elementData_915e3, Cond.selects RJx4a65c yJx4a65c_elementData_915e3 yJx4a65c_elementData_915e3, Cond.code yJx4a65c_elementData_915e3 cJx4a65c_elementData_915e3 2 (some (.object "java/lang/Object")), Cond.fieldLink RJx4a65c 9 "java/util/ArrayList" "elementData" "[Ljava/lang/Object;", Cond.methodLink RX2 80 yX1_hasBytesOf, Cond.instanceMethod yX1_hasBytesOf, Cond.selects RX1 yX1_hasBytesOf yX1_hasBytesOf, Cond.initialized RX1, Cond.code yX1_hasBytesOf cX1_hasBytesOf 2 (some .boolean), Cond.fieldLink RX1 13 "DeltaUpdater$Row" "bytes" "[I", Cond.methodLink RX1 19 yX1_hasStretch, Cond.instanceMethod yX1_hasStretch, Cond.selects RX1 yX1_hasStretch yX1_hasStretch, Cond.code yX1_hasStretch cX1_hasStretch 6 (some .boolean)]
def wsL_areSame : List Cond := .codeWith yL_areSame cL_areSame 5 (some .int) [(0, 17, 20, 25)] :: ((wsL_areSame_r1 ++ wsL_areSame_r2) ++ wsX20 ++ wsJx4a65c0 ++ wsX10 ++ (vx_atS RX2 79 "java/lang/IndexOutOfBoundsException" ["java/lang/RuntimeException", "java/lang/Exception"]).filter goodWord)
def wsL_weakSum_r1 : List Cond := [Cond.classLink RL 25 "java/lang/IndexOutOfBoundsException", Cond.classLink RL 13 "java/lang/IllegalArgumentException", Cond.methodLink RL 35 yX2_weakSum, Cond.instanceMethod yX2_weakSum, Cond.selects RX2 yX2_weakSum yX2_weakSum, Cond.initialized RX2, Cond.code yX2_weakSum cX2_weakSum 5 (some .int), Cond.classLink RX2 45 "java/lang/IllegalArgumentException", Cond.initialized "java/lang/IllegalArgumentException", Cond.fieldLink RX2 72 "DeltaUpdater$Row" "bytes" "[I", Cond.methodLink RX2 68 yX2_rowOf, Cond.instanceMethod yX2_rowOf, Cond.selects RX2 yX2_rowOf yX2_rowOf, Cond.code yX2_rowOf cX2_rowOf 2 (some (.object "DeltaUpdater$Row")), Cond.classLink RX2 75 "java/lang/IndexOutOfBoundsException", Cond.initialized "java/lang/IndexOutOfBoundsException", Cond.fieldLink RX2 20 "DeltaUpdater" "stored" "Ljava/util/ArrayList;", Cond.classLink RX2 27 "DeltaUpdater$Row", Cond.methodLink RX2 64 yJx4a65c_size_8abf5, Cond.instanceMethod yJx4a65c_size_8abf5, Cond.selects RJx4a65c yJx4a65c_size_8abf5 yJx4a65c_size_8abf5, Cond.initialized RJx4a65c, Cond.code yJx4a65c_size_8abf5 cJx4a65c_size_8abf5 1 (some .int), Cond.fieldLink RJx4a65c 48 "java/util/ArrayList" "size" "I"]
def wsL_weakSum_r2 : List Cond := [Cond.methodLink RX2 172 yJx4a65c_get_915e3, Cond.instanceMethod yJx4a65c_get_915e3, Cond.selects RJx4a65c yJx4a65c_get_915e3 yJx4a65c_get_915e3, Cond.code yJx4a65c_get_915e3 cJx4a65c_get_915e3 2 (some (.object "java/lang/Object")), Cond.methodLink RJx4a65c 118 yJ15_checkIndex_7cf53, Cond.static yJ15_checkIndex_7cf53, Cond.initialized RJ15, Cond.code yJ15_checkIndex_7cf53 cJ15_checkIndex_7cf53 2 (some .int), Cond.methodLink RJ15 105 yJ3_checkIndex_8e157, Cond.static yJ3_checkIndex_8e157, Cond.initialized RJ3, Cond.code yJ3_checkIndex_8e157 cJ3_checkIndex_8e157 3 (some .int), Cond.methodLink RJx4a65c 123 yJx4a65c_elementData_915e3, Cond.instanceMethod yJx4a65c_elementData_915e3, Cond.selects RJx4a65c yJx4a65c_elementData_915e3 yJx4a65c_elementData_915e3, Cond.code yJx4a65c_elementData_915e3 cJx4a65c_elementData_915e3 2 (some (.object "java/lang/Object")), Cond.fieldLink RJx4a65c 9 "java/util/ArrayList" "elementData" "[Ljava/lang/Object;", Cond.methodLink RX2 88 yX1_sumOf, Cond.instanceMethod yX1_sumOf, Cond.selects RX1 yX1_sumOf yX1_sumOf, Cond.initialized RX1, Cond.code yX1_sumOf cX1_sumOf 6 (some .int), Cond.fieldLink RX1 13 "DeltaUpdater$Row" "bytes" "[I"]
def wsL_weakSum : List Cond := .codeWith yL_weakSum cL_weakSum 6 (some .int) [(0, 12, 15, 25), (0, 12, 19, 13)] :: ((wsL_weakSum_r1 ++ wsL_weakSum_r2) ++ wsX10 ++ wsX20 ++ wsJx4a65c0 ++ (vx_atS RX2 49 "java/lang/IllegalArgumentException" ["java/lang/RuntimeException", "java/lang/Exception"]).filter goodWord ++ (vx_atS RX2 79 "java/lang/IndexOutOfBoundsException" ["java/lang/RuntimeException", "java/lang/Exception"]).filter goodWord)
def wsL_collisions_r1 : List Cond := [Cond.classLink RL 25 "java/lang/IndexOutOfBoundsException", Cond.classLink RL 13 "java/lang/IllegalArgumentException", Cond.methodLink RL 39 yX2_collisions, Cond.instanceMethod yX2_collisions, Cond.selects RX2 yX2_collisions yX2_collisions, Cond.initialized RX2, Cond.code yX2_collisions cX2_collisions 8 (some .int), Cond.fieldLink RX2 72 "DeltaUpdater$Row" "bytes" "[I", Cond.fieldLink RX2 39 "DeltaUpdater" "blockSums" "[I", Cond.methodLink RX2 68 yX2_rowOf, Cond.instanceMethod yX2_rowOf, Cond.selects RX2 yX2_rowOf yX2_rowOf, Cond.code yX2_rowOf cX2_rowOf 2 (some (.object "DeltaUpdater$Row")), Cond.classLink RX2 75 "java/lang/IndexOutOfBoundsException", Cond.initialized "java/lang/IndexOutOfBoundsException", Cond.fieldLink RX2 20 "DeltaUpdater" "stored" "Ljava/util/ArrayList;", Cond.classLink RX2 27 "DeltaUpdater$Row", Cond.methodLink RX2 64 yJx4a65c_size_8abf5, Cond.instanceMethod yJx4a65c_size_8abf5, Cond.selects RJx4a65c yJx4a65c_size_8abf5 yJx4a65c_size_8abf5, Cond.initialized RJx4a65c, Cond.code yJx4a65c_size_8abf5 cJx4a65c_size_8abf5 1 (some .int), Cond.fieldLink RJx4a65c 48 "java/util/ArrayList" "size" "I", Cond.methodLink RX2 172 yJx4a65c_get_915e3]
def wsL_collisions_r2 : List Cond := [Cond.instanceMethod yJx4a65c_get_915e3, Cond.selects RJx4a65c yJx4a65c_get_915e3 yJx4a65c_get_915e3, Cond.code yJx4a65c_get_915e3 cJx4a65c_get_915e3 2 (some (.object "java/lang/Object")), Cond.methodLink RJx4a65c 118 yJ15_checkIndex_7cf53, Cond.static yJ15_checkIndex_7cf53, Cond.initialized RJ15, Cond.code yJ15_checkIndex_7cf53 cJ15_checkIndex_7cf53 2 (some .int), Cond.methodLink RJ15 105 yJ3_checkIndex_8e157, Cond.static yJ3_checkIndex_8e157, Cond.initialized RJ3, Cond.code yJ3_checkIndex_8e157 cJ3_checkIndex_8e157 3 (some .int), Cond.methodLink RJx4a65c 123 yJx4a65c_elementData_915e3, Cond.instanceMethod yJx4a65c_elementData_915e3, Cond.selects RJx4a65c yJx4a65c_elementData_915e3 yJx4a65c_elementData_915e3, Cond.code yJx4a65c_elementData_915e3 cJx4a65c_elementData_915e3 2 (some (.object "java/lang/Object")), Cond.fieldLink RJx4a65c 9 "java/util/ArrayList" "elementData" "[Ljava/lang/Object;", Cond.methodLink RX2 92 yX2_checkSize, Cond.static yX2_checkSize, Cond.code yX2_checkSize cX2_checkSize 1 none, Cond.classLink RX2 45 "java/lang/IllegalArgumentException", Cond.initialized "java/lang/IllegalArgumentException", Cond.methodLink RX2 88 yX1_sumOf, Cond.instanceMethod yX1_sumOf, Cond.selects RX1 yX1_sumOf yX1_sumOf]
def wsL_collisions_r3 : List Cond := [Cond.initialized RX1, Cond.code yX1_sumOf cX1_sumOf 6 (some .int), Cond.fieldLink RX1 13 "DeltaUpdater$Row" "bytes" "[I", Cond.methodLink RX2 96 yX1_hasStretch, Cond.instanceMethod yX1_hasStretch, Cond.selects RX1 yX1_hasStretch yX1_hasStretch, Cond.code yX1_hasStretch cX1_hasStretch 6 (some .boolean)]
def wsL_collisions : List Cond := .codeWith yL_collisions cL_collisions 5 (some .int) [(0, 10, 13, 25), (0, 10, 17, 13)] :: ((wsL_collisions_r1 ++ (wsL_collisions_r2 ++ wsL_collisions_r3)) ++ wsX10 ++ wsX20 ++ wsJx4a65c0 ++ (vx_atS RX2 79 "java/lang/IndexOutOfBoundsException" ["java/lang/RuntimeException", "java/lang/Exception"]).filter goodWord ++ (vx_atS RX2 49 "java/lang/IllegalArgumentException" ["java/lang/RuntimeException", "java/lang/Exception"]).filter goodWord)
def wsL_differentBlocks_r1 : List Cond := [Cond.classLink RL 25 "java/lang/IndexOutOfBoundsException", Cond.classLink RL 13 "java/lang/IllegalArgumentException", Cond.methodLink RL 42 yX2_differentBlocks, Cond.instanceMethod yX2_differentBlocks, Cond.selects RX2 yX2_differentBlocks yX2_differentBlocks, Cond.initialized RX2, Cond.code yX2_differentBlocks cX2_differentBlocks 7 (some .int), Cond.fieldLink RX2 72 "DeltaUpdater$Row" "bytes" "[I", Cond.methodLink RX2 68 yX2_rowOf, Cond.instanceMethod yX2_rowOf, Cond.selects RX2 yX2_rowOf yX2_rowOf, Cond.code yX2_rowOf cX2_rowOf 2 (some (.object "DeltaUpdater$Row")), Cond.classLink RX2 75 "java/lang/IndexOutOfBoundsException", Cond.initialized "java/lang/IndexOutOfBoundsException", Cond.fieldLink RX2 20 "DeltaUpdater" "stored" "Ljava/util/ArrayList;", Cond.classLink RX2 27 "DeltaUpdater$Row", Cond.methodLink RX2 64 yJx4a65c_size_8abf5, Cond.instanceMethod yJx4a65c_size_8abf5, Cond.selects RJx4a65c yJx4a65c_size_8abf5 yJx4a65c_size_8abf5, Cond.initialized RJx4a65c, Cond.code yJx4a65c_size_8abf5 cJx4a65c_size_8abf5 1 (some .int), Cond.fieldLink RJx4a65c 48 "java/util/ArrayList" "size" "I", Cond.methodLink RX2 172 yJx4a65c_get_915e3, Cond.instanceMethod yJx4a65c_get_915e3]
def wsL_differentBlocks_r2 : List Cond := [Cond.selects RJx4a65c yJx4a65c_get_915e3 yJx4a65c_get_915e3, Cond.code yJx4a65c_get_915e3 cJx4a65c_get_915e3 2 (some (.object "java/lang/Object")), Cond.methodLink RJx4a65c 118 yJ15_checkIndex_7cf53, Cond.static yJ15_checkIndex_7cf53, Cond.initialized RJ15, Cond.code yJ15_checkIndex_7cf53 cJ15_checkIndex_7cf53 2 (some .int), Cond.methodLink RJ15 105 yJ3_checkIndex_8e157, Cond.static yJ3_checkIndex_8e157, Cond.initialized RJ3, Cond.code yJ3_checkIndex_8e157 cJ3_checkIndex_8e157 3 (some .int), Cond.methodLink RJx4a65c 123 yJx4a65c_elementData_915e3, Cond.instanceMethod yJx4a65c_elementData_915e3, Cond.selects RJx4a65c yJx4a65c_elementData_915e3 yJx4a65c_elementData_915e3, Cond.code yJx4a65c_elementData_915e3 cJx4a65c_elementData_915e3 2 (some (.object "java/lang/Object")), Cond.fieldLink RJx4a65c 9 "java/util/ArrayList" "elementData" "[Ljava/lang/Object;", Cond.methodLink RX2 92 yX2_checkSize, Cond.static yX2_checkSize, Cond.code yX2_checkSize cX2_checkSize 1 none, Cond.classLink RX2 45 "java/lang/IllegalArgumentException", Cond.initialized "java/lang/IllegalArgumentException", Cond.methodLink RX2 100 yX2_firstBlock, Cond.static yX2_firstBlock, Cond.code yX2_firstBlock cX2_firstBlock 6 (some .int), Cond.methodLink RX2 96 yX1_hasStretch]
def wsL_differentBlocks_r3 : List Cond := [Cond.instanceMethod yX1_hasStretch, Cond.selects RX1 yX1_hasStretch yX1_hasStretch, Cond.initialized RX1, Cond.code yX1_hasStretch cX1_hasStretch 6 (some .boolean), Cond.fieldLink RX1 13 "DeltaUpdater$Row" "bytes" "[I"]
def wsL_differentBlocks : List Cond := .codeWith yL_differentBlocks cL_differentBlocks 5 (some .int) [(0, 10, 13, 25), (0, 10, 17, 13)] :: ((wsL_differentBlocks_r1 ++ (wsL_differentBlocks_r2 ++ wsL_differentBlocks_r3)) ++ wsX10 ++ wsX20 ++ wsJx4a65c0 ++ (vx_atS RX2 79 "java/lang/IndexOutOfBoundsException" ["java/lang/RuntimeException", "java/lang/Exception"]).filter goodWord ++ (vx_atS RX2 49 "java/lang/IllegalArgumentException" ["java/lang/RuntimeException", "java/lang/Exception"]).filter goodWord)
def wsL_difference_r1 : List Cond := [Cond.classLink RL 25 "java/lang/IndexOutOfBoundsException", Cond.classLink RL 13 "java/lang/IllegalArgumentException", Cond.classLink RL 15 "java/lang/IllegalStateException", Cond.methodLink RL 45 yX2_difference, Cond.instanceMethod yX2_difference, Cond.selects RX2 yX2_difference yX2_difference, Cond.initialized RX2, Cond.code yX2_difference cX2_difference 7 (some .int), Cond.fieldLink RX2 24 "DeltaUpdater" "made" "Ljava/util/ArrayList;", Cond.classLink RX2 111 RX0, Cond.instantiable RX0 7, Cond.initialized RX0, Cond.methodLink RX2 68 yX2_rowOf, Cond.instanceMethod yX2_rowOf, Cond.selects RX2 yX2_rowOf yX2_rowOf, Cond.code yX2_rowOf cX2_rowOf 2 (some (.object "DeltaUpdater$Row")), Cond.classLink RX2 75 "java/lang/IndexOutOfBoundsException", Cond.initialized "java/lang/IndexOutOfBoundsException", Cond.fieldLink RX2 20 "DeltaUpdater" "stored" "Ljava/util/ArrayList;", Cond.classLink RX2 27 "DeltaUpdater$Row", Cond.methodLink RX2 64 yJx4a65c_size_8abf5, Cond.instanceMethod yJx4a65c_size_8abf5, Cond.selects RJx4a65c yJx4a65c_size_8abf5 yJx4a65c_size_8abf5, Cond.initialized RJx4a65c]
def wsL_difference_r2 : List Cond := [Cond.code yJx4a65c_size_8abf5 cJx4a65c_size_8abf5 1 (some .int), Cond.fieldLink RJx4a65c 48 "java/util/ArrayList" "size" "I", Cond.methodLink RX2 172 yJx4a65c_get_915e3, Cond.instanceMethod yJx4a65c_get_915e3, Cond.selects RJx4a65c yJx4a65c_get_915e3 yJx4a65c_get_915e3, Cond.code yJx4a65c_get_915e3 cJx4a65c_get_915e3 2 (some (.object "java/lang/Object")), Cond.methodLink RJx4a65c 118 yJ15_checkIndex_7cf53, Cond.static yJ15_checkIndex_7cf53, Cond.initialized RJ15, Cond.code yJ15_checkIndex_7cf53 cJ15_checkIndex_7cf53 2 (some .int), Cond.methodLink RJ15 105 yJ3_checkIndex_8e157, Cond.static yJ3_checkIndex_8e157, Cond.initialized RJ3, Cond.code yJ3_checkIndex_8e157 cJ3_checkIndex_8e157 3 (some .int), Cond.methodLink RJx4a65c 123 yJx4a65c_elementData_915e3, Cond.instanceMethod yJx4a65c_elementData_915e3, Cond.selects RJx4a65c yJx4a65c_elementData_915e3 yJx4a65c_elementData_915e3, Cond.code yJx4a65c_elementData_915e3 cJx4a65c_elementData_915e3 2 (some (.object "java/lang/Object")), Cond.fieldLink RJx4a65c 9 "java/util/ArrayList" "elementData" "[Ljava/lang/Object;", Cond.methodLink RX2 92 yX2_checkSize, Cond.static yX2_checkSize, Cond.code yX2_checkSize cX2_checkSize 1 none, Cond.classLink RX2 45 "java/lang/IllegalArgumentException", Cond.initialized "java/lang/IllegalArgumentException"]
def wsL_difference_r3 : List Cond := [Cond.methodLink RX2 104 yX2_checkRoomForPatch, Cond.instanceMethod yX2_checkRoomForPatch, Cond.selects RX2 yX2_checkRoomForPatch yX2_checkRoomForPatch, Cond.code yX2_checkRoomForPatch cX2_checkRoomForPatch 1 none, Cond.classLink RX2 52 "java/lang/IllegalStateException", Cond.initialized "java/lang/IllegalStateException", Cond.methodLink RX2 107 yX2_originsByBlocks, Cond.static yX2_originsByBlocks, Cond.code yX2_originsByBlocks cX2_originsByBlocks 8 (some (.array .int)), Cond.fieldLink RX2 72 "DeltaUpdater$Row" "bytes" "[I", Cond.arrayClass .int, Cond.methodLink RX2 201 yX2_blockToCopy, Cond.static yX2_blockToCopy, Cond.code yX2_blockToCopy cX2_blockToCopy 6 (some .int), Cond.methodLink RX2 96 yX1_hasStretch, Cond.instanceMethod yX1_hasStretch, Cond.selects RX1 yX1_hasStretch yX1_hasStretch, Cond.initialized RX1, Cond.code yX1_hasStretch cX1_hasStretch 6 (some .boolean), Cond.fieldLink RX1 13 "DeltaUpdater$Row" "bytes" "[I", Cond.methodLink RX2 100 yX2_firstBlock, Cond.static yX2_firstBlock, Cond.code yX2_firstBlock cX2_firstBlock 6 (some .int), Cond.methodLink RX2 113 yX2_firstLike]
def wsL_difference_r4 : List Cond := [Cond.instanceMethod yX2_firstLike, Cond.selects RX2 yX2_firstLike yX2_firstLike, Cond.code yX2_firstLike cX2_firstLike 4 (some .int), Cond.methodLink RX2 80 yX1_hasBytesOf, Cond.instanceMethod yX1_hasBytesOf, Cond.selects RX1 yX1_hasBytesOf yX1_hasBytesOf, Cond.code yX1_hasBytesOf cX1_hasBytesOf 2 (some .boolean), Cond.methodLink RX1 19 yX1_hasStretch, Cond.methodLink RX2 117 yX0_init, Cond.instanceMethod yX0_init, Cond.code yX0_init cX0_init 5 none, Cond.methodLink RX0 3 objectInit, Cond.instanceMethod objectInit, Cond.code objectInit ⟨#[0xb1]⟩ 1 none, Cond.fieldLink RX0 9 "DeltaUpdater$Patch" "base" "I", Cond.fieldLink RX0 15 "DeltaUpdater$Patch" "goal" "I", Cond.fieldLink RX0 18 "DeltaUpdater$Patch" "goalRow" "LDeltaUpdater$Row;", Cond.fieldLink RX0 22 "DeltaUpdater$Patch" "origins" "[I", Cond.fieldLink RX0 30 "DeltaUpdater$Patch" "starts" "[I", Cond.fieldLink RX0 37 "DeltaUpdater$Patch" "literalBytes" "I", Cond.fieldLink RX0 44 "DeltaUpdater$Patch" "price" "I", Cond.methodLink RX0 26 yX0_startsIn, Cond.static yX0_startsIn, Cond.code yX0_startsIn cX0_startsIn 4 (some (.array .int))]
def wsL_difference_r5 : List Cond := [Cond.methodLink RX0 47 yX0_startsAt, Cond.static yX0_startsAt, Cond.code yX0_startsAt cX0_startsAt 3 (some .boolean), Cond.methodLink RX0 51 yJ7_copyOf_59c91, Cond.static yJ7_copyOf_59c91, Cond.initialized RJ7, Cond.code yJ7_copyOf_59c91 cJ7_copyOf_59c91 3 (some (.array .int)), Cond.methodLink RJ7 316 ⟨"[I", "clone", "()Ljava/lang/Object;"⟩, Cond.sameMethod "[I" "java/lang/Object" "clone" "()Ljava/lang/Object;", Cond.native ⟨"java/lang/Object", "clone", "()Ljava/lang/Object;"⟩, Cond.instanceMethod ⟨"java/lang/Object", "clone", "()Ljava/lang/Object;"⟩, Cond.selects "[I" ⟨"[I", "clone", "()Ljava/lang/Object;"⟩ ⟨"java/lang/Object", "clone", "()Ljava/lang/Object;"⟩, Cond.classLink RJ7 317 "[I", Cond.methodLink RJ7 304 Lib.Math.min.name, Cond.static Lib.Math.min.name, Cond.initialized "java/lang/Math", Cond.code Lib.Math.min.name Lib.Math.min.code 2 (some .int), Cond.methodLink RJ7 150 arraycopyName, Cond.native arraycopyName, Cond.static arraycopyName, Cond.initialized "java/lang/System", Cond.methodLink RX0 33 yX0_literalsIn, Cond.static yX0_literalsIn, Cond.code yX0_literalsIn cX0_literalsIn 3 (some .int)]
def wsL_difference_r6 : List Cond := [Cond.methodLink RX0 40 yX0_priceOf, Cond.static yX0_priceOf, Cond.code yX0_priceOf cX0_priceOf 5 (some .int), Cond.methodLink RX2 60 yJx4a65c_add_9ea2d, Cond.instanceMethod yJx4a65c_add_9ea2d, Cond.selects RJx4a65c yJx4a65c_add_9ea2d yJx4a65c_add_9ea2d, Cond.code yJx4a65c_add_9ea2d cJx4a65c_add_9ea2d 2 (some .boolean), Cond.fieldLink RJx4a65c 63 "java/util/ArrayList" "modCount" "I", Cond.sameField "java/util/ArrayList" "java/util/AbstractList" "modCount" "I", Cond.methodLink RJx4a65c 131 yJx4a65c_add_72be8, Cond.instanceMethod yJx4a65c_add_72be8, Cond.selects RJx4a65c yJx4a65c_add_72be8 yJx4a65c_add_72be8, Cond.code yJx4a65c_add_72be8 cJx4a65c_add_72be8 4 none, Cond.methodLink RJx4a65c 129 yJx4a65c_grow_d5877, Cond.instanceMethod yJx4a65c_grow_d5877, Cond.selects RJx4a65c yJx4a65c_grow_d5877 yJx4a65c_grow_d5877, Cond.code yJx4a65c_grow_d5877 cJx4a65c_grow_d5877 1 (some (.array (.object "java/lang/Object"))), Cond.methodLink RJx4a65c 69 yJx4a65c_grow_92f84, Cond.instanceMethod yJx4a65c_grow_92f84, Cond.selects RJx4a65c yJx4a65c_grow_92f84 yJx4a65c_grow_92f84, Cond.code yJx4a65c_grow_92f84 cJx4a65c_grow_92f84 4 (some (.array (.object "java/lang/Object"))), Cond.fieldLink RJx4a65c 39 "java/util/ArrayList" "DEFAULTCAPACITY_EMPTY_ELEMENTDATA" "[Ljava/lang/Object;", Cond.methodLink RJx4a65c 79 Lib.Math.max.name, Cond.static Lib.Math.max.name]
def wsL_difference_r7 : List Cond := [Cond.code Lib.Math.max.name Lib.Math.max.code 2 (some .int), Cond.classLink RJx4a65c 7 "java/lang/Object", Cond.methodLink RJx4a65c 73 yJ8_newLength_cabcc, Cond.static yJ8_newLength_cabcc, Cond.initialized RJ8, Cond.code yJ8_newLength_cabcc cJ8_newLength_cabcc 4 (some .int), Cond.methodLink RJ8 194 Lib.Math.max.name, Cond.constant RJ8 200 (2147483639), Cond.methodLink RJ8 201 yJ8_hugeLength_7cf53, Cond.static yJ8_hugeLength_7cf53, Cond.code yJ8_hugeLength_7cf53 cJ8_hugeLength_7cf53 3 (some .int), Cond.methodLink RJx4a65c 66 yJ7_copyOf_1904c, Cond.static yJ7_copyOf_1904c, Cond.code yJ7_copyOf_1904c cJ7_copyOf_1904c 2 (some (.array (.object "java/lang/Object"))), Cond.methodLink RJ7 86 ⟨"java/lang/Object", "getClass", "()Ljava/lang/Class;"⟩, Cond.selects "[Ljava/lang/Object;" ⟨"java/lang/Object", "getClass", "()Ljava/lang/Class;"⟩ ⟨"java/lang/Object", "getClass", "()Ljava/lang/Class;"⟩, Cond.instanceMethod ⟨"java/lang/Object", "getClass", "()Ljava/lang/Class;"⟩, Cond.native ⟨"java/lang/Object", "getClass", "()Ljava/lang/Class;"⟩, Cond.methodLink RJ7 300 yJ7_copyOf_6403c, Cond.static yJ7_copyOf_6403c, Cond.code yJ7_copyOf_6403c cJ7_copyOf_6403c 4 (some (.array (.object "java/lang/Object"))), Cond.classLink RJ7 110 "[Ljava/lang/Object;", Cond.classLink RJ7 2 "java/lang/Object"]
def wsL_difference : List Cond := .codeWith yL_difference cL_difference 6 (some .int) [(0, 12, 15, 25), (0, 12, 19, 13), (0, 12, 23, 15)] :: ((wsL_difference_r1 ++ (wsL_difference_r2 ++ (wsL_difference_r3 ++ (wsL_difference_r4 ++ (wsL_difference_r5 ++ (wsL_difference_r6 ++ wsL_difference_r7)))))) ++ wsX20 ++ wsX00 ++ wsJx4a65c0 ++ wsX10 ++ (vx_atS RX2 79 "java/lang/IndexOutOfBoundsException" ["java/lang/RuntimeException", "java/lang/Exception"]).filter goodWord ++ (vx_atS RX2 49 "java/lang/IllegalArgumentException" ["java/lang/RuntimeException", "java/lang/Exception"]).filter goodWord ++ (vx_atS RX2 56 "java/lang/IllegalStateException" ["java/lang/RuntimeException", "java/lang/Exception"]).filter goodWord)
def wsL_compose_r1 : List Cond := [Cond.classLink RL 25 "java/lang/IndexOutOfBoundsException", Cond.classLink RL 13 "java/lang/IllegalArgumentException", Cond.classLink RL 15 "java/lang/IllegalStateException", Cond.methodLink RL 48 yX2_compose, Cond.instanceMethod yX2_compose, Cond.selects RX2 yX2_compose yX2_compose, Cond.initialized RX2, Cond.code yX2_compose cX2_compose 6 (some .int), Cond.classLink RX2 45 "java/lang/IllegalArgumentException", Cond.initialized "java/lang/IllegalArgumentException", Cond.fieldLink RX2 124 "DeltaUpdater$Patch" "goal" "I", Cond.fieldLink RX2 127 "DeltaUpdater$Patch" "base" "I", Cond.fieldLink RX2 132 "DeltaUpdater$Patch" "origins" "[I", Cond.fieldLink RX2 24 "DeltaUpdater" "made" "Ljava/util/ArrayList;", Cond.classLink RX2 111 RX0, Cond.instantiable RX0 7, Cond.initialized RX0, Cond.fieldLink RX2 139 "DeltaUpdater$Patch" "goalRow" "LDeltaUpdater$Row;", Cond.methodLink RX2 120 yX2_patchOf, Cond.instanceMethod yX2_patchOf, Cond.selects RX2 yX2_patchOf yX2_patchOf, Cond.code yX2_patchOf cX2_patchOf 2 (some (.object "DeltaUpdater$Patch")), Cond.classLink RX2 75 "java/lang/IndexOutOfBoundsException", Cond.initialized "java/lang/IndexOutOfBoundsException"]
def wsL_compose_r2 : List Cond := [Cond.classLink RX2 111 "DeltaUpdater$Patch", Cond.methodLink RX2 64 yJx4a65c_size_8abf5, Cond.instanceMethod yJx4a65c_size_8abf5, Cond.selects RJx4a65c yJx4a65c_size_8abf5 yJx4a65c_size_8abf5, Cond.initialized RJx4a65c, Cond.code yJx4a65c_size_8abf5 cJx4a65c_size_8abf5 1 (some .int), Cond.fieldLink RJx4a65c 48 "java/util/ArrayList" "size" "I", Cond.methodLink RX2 172 yJx4a65c_get_915e3, Cond.instanceMethod yJx4a65c_get_915e3, Cond.selects RJx4a65c yJx4a65c_get_915e3 yJx4a65c_get_915e3, Cond.code yJx4a65c_get_915e3 cJx4a65c_get_915e3 2 (some (.object "java/lang/Object")), Cond.methodLink RJx4a65c 118 yJ15_checkIndex_7cf53, Cond.static yJ15_checkIndex_7cf53, Cond.initialized RJ15, Cond.code yJ15_checkIndex_7cf53 cJ15_checkIndex_7cf53 2 (some .int), Cond.methodLink RJ15 105 yJ3_checkIndex_8e157, Cond.static yJ3_checkIndex_8e157, Cond.initialized RJ3, Cond.code yJ3_checkIndex_8e157 cJ3_checkIndex_8e157 3 (some .int), Cond.methodLink RJx4a65c 123 yJx4a65c_elementData_915e3, Cond.instanceMethod yJx4a65c_elementData_915e3, Cond.selects RJx4a65c yJx4a65c_elementData_915e3 yJx4a65c_elementData_915e3, Cond.code yJx4a65c_elementData_915e3 cJx4a65c_elementData_915e3 2 (some (.object "java/lang/Object")), Cond.fieldLink RJx4a65c 9 "java/util/ArrayList" "elementData" "[Ljava/lang/Object;"]
def wsL_compose_r3 : List Cond := [Cond.methodLink RX2 104 yX2_checkRoomForPatch, Cond.instanceMethod yX2_checkRoomForPatch, Cond.selects RX2 yX2_checkRoomForPatch yX2_checkRoomForPatch, Cond.code yX2_checkRoomForPatch cX2_checkRoomForPatch 1 none, Cond.classLink RX2 52 "java/lang/IllegalStateException", Cond.initialized "java/lang/IllegalStateException", Cond.methodLink RX2 135 yX2_originsThrough, Cond.static yX2_originsThrough, Cond.code yX2_originsThrough cX2_originsThrough 5 (some (.array .int)), Cond.arrayClass .int, Cond.methodLink RX2 117 yX0_init, Cond.instanceMethod yX0_init, Cond.code yX0_init cX0_init 5 none, Cond.methodLink RX0 3 objectInit, Cond.instanceMethod objectInit, Cond.code objectInit ⟨#[0xb1]⟩ 1 none, Cond.fieldLink RX0 9 "DeltaUpdater$Patch" "base" "I", Cond.fieldLink RX0 15 "DeltaUpdater$Patch" "goal" "I", Cond.fieldLink RX0 18 "DeltaUpdater$Patch" "goalRow" "LDeltaUpdater$Row;", Cond.fieldLink RX0 22 "DeltaUpdater$Patch" "origins" "[I", Cond.fieldLink RX0 30 "DeltaUpdater$Patch" "starts" "[I", Cond.fieldLink RX0 37 "DeltaUpdater$Patch" "literalBytes" "I", Cond.fieldLink RX0 44 "DeltaUpdater$Patch" "price" "I", Cond.methodLink RX0 26 yX0_startsIn]
def wsL_compose_r4 : List Cond := [Cond.static yX0_startsIn, Cond.code yX0_startsIn cX0_startsIn 4 (some (.array .int)), Cond.methodLink RX0 47 yX0_startsAt, Cond.static yX0_startsAt, Cond.code yX0_startsAt cX0_startsAt 3 (some .boolean), Cond.methodLink RX0 51 yJ7_copyOf_59c91, Cond.static yJ7_copyOf_59c91, Cond.initialized RJ7, Cond.code yJ7_copyOf_59c91 cJ7_copyOf_59c91 3 (some (.array .int)), Cond.methodLink RJ7 316 ⟨"[I", "clone", "()Ljava/lang/Object;"⟩, Cond.sameMethod "[I" "java/lang/Object" "clone" "()Ljava/lang/Object;", Cond.native ⟨"java/lang/Object", "clone", "()Ljava/lang/Object;"⟩, Cond.instanceMethod ⟨"java/lang/Object", "clone", "()Ljava/lang/Object;"⟩, Cond.selects "[I" ⟨"[I", "clone", "()Ljava/lang/Object;"⟩ ⟨"java/lang/Object", "clone", "()Ljava/lang/Object;"⟩, Cond.classLink RJ7 317 "[I", Cond.methodLink RJ7 304 Lib.Math.min.name, Cond.static Lib.Math.min.name, Cond.initialized "java/lang/Math", Cond.code Lib.Math.min.name Lib.Math.min.code 2 (some .int), Cond.methodLink RJ7 150 arraycopyName, Cond.native arraycopyName, Cond.static arraycopyName, Cond.initialized "java/lang/System", Cond.methodLink RX0 33 yX0_literalsIn]
def wsL_compose_r5 : List Cond := [Cond.static yX0_literalsIn, Cond.code yX0_literalsIn cX0_literalsIn 3 (some .int), Cond.methodLink RX0 40 yX0_priceOf, Cond.static yX0_priceOf, Cond.code yX0_priceOf cX0_priceOf 5 (some .int), Cond.methodLink RX2 60 yJx4a65c_add_9ea2d, Cond.instanceMethod yJx4a65c_add_9ea2d, Cond.selects RJx4a65c yJx4a65c_add_9ea2d yJx4a65c_add_9ea2d, Cond.code yJx4a65c_add_9ea2d cJx4a65c_add_9ea2d 2 (some .boolean), Cond.fieldLink RJx4a65c 63 "java/util/ArrayList" "modCount" "I", Cond.sameField "java/util/ArrayList" "java/util/AbstractList" "modCount" "I", Cond.methodLink RJx4a65c 131 yJx4a65c_add_72be8, Cond.instanceMethod yJx4a65c_add_72be8, Cond.selects RJx4a65c yJx4a65c_add_72be8 yJx4a65c_add_72be8, Cond.code yJx4a65c_add_72be8 cJx4a65c_add_72be8 4 none, Cond.methodLink RJx4a65c 129 yJx4a65c_grow_d5877, Cond.instanceMethod yJx4a65c_grow_d5877, Cond.selects RJx4a65c yJx4a65c_grow_d5877 yJx4a65c_grow_d5877, Cond.code yJx4a65c_grow_d5877 cJx4a65c_grow_d5877 1 (some (.array (.object "java/lang/Object"))), Cond.methodLink RJx4a65c 69 yJx4a65c_grow_92f84, Cond.instanceMethod yJx4a65c_grow_92f84, Cond.selects RJx4a65c yJx4a65c_grow_92f84 yJx4a65c_grow_92f84, Cond.code yJx4a65c_grow_92f84 cJx4a65c_grow_92f84 4 (some (.array (.object "java/lang/Object"))), Cond.fieldLink RJx4a65c 39 "java/util/ArrayList" "DEFAULTCAPACITY_EMPTY_ELEMENTDATA" "[Ljava/lang/Object;"]
def wsL_compose_r6 : List Cond := [Cond.methodLink RJx4a65c 79 Lib.Math.max.name, Cond.static Lib.Math.max.name, Cond.code Lib.Math.max.name Lib.Math.max.code 2 (some .int), Cond.classLink RJx4a65c 7 "java/lang/Object", Cond.methodLink RJx4a65c 73 yJ8_newLength_cabcc, Cond.static yJ8_newLength_cabcc, Cond.initialized RJ8, Cond.code yJ8_newLength_cabcc cJ8_newLength_cabcc 4 (some .int), Cond.methodLink RJ8 194 Lib.Math.max.name, Cond.constant RJ8 200 (2147483639), Cond.methodLink RJ8 201 yJ8_hugeLength_7cf53, Cond.static yJ8_hugeLength_7cf53, Cond.code yJ8_hugeLength_7cf53 cJ8_hugeLength_7cf53 3 (some .int), Cond.methodLink RJx4a65c 66 yJ7_copyOf_1904c, Cond.static yJ7_copyOf_1904c, Cond.code yJ7_copyOf_1904c cJ7_copyOf_1904c 2 (some (.array (.object "java/lang/Object"))), Cond.methodLink RJ7 86 ⟨"java/lang/Object", "getClass", "()Ljava/lang/Class;"⟩, Cond.selects "[Ljava/lang/Object;" ⟨"java/lang/Object", "getClass", "()Ljava/lang/Class;"⟩ ⟨"java/lang/Object", "getClass", "()Ljava/lang/Class;"⟩, Cond.instanceMethod ⟨"java/lang/Object", "getClass", "()Ljava/lang/Class;"⟩, Cond.native ⟨"java/lang/Object", "getClass", "()Ljava/lang/Class;"⟩, Cond.methodLink RJ7 300 yJ7_copyOf_6403c, Cond.static yJ7_copyOf_6403c, Cond.code yJ7_copyOf_6403c cJ7_copyOf_6403c 4 (some (.array (.object "java/lang/Object"))), Cond.classLink RJ7 110 "[Ljava/lang/Object;"]
def wsL_compose_r7 : List Cond := [Cond.classLink RJ7 2 "java/lang/Object"]
def wsL_compose : List Cond := .codeWith yL_compose cL_compose 5 (some .int) [(0, 10, 13, 25), (0, 10, 17, 13), (0, 10, 21, 15)] :: ((wsL_compose_r1 ++ (wsL_compose_r2 ++ (wsL_compose_r3 ++ (wsL_compose_r4 ++ (wsL_compose_r5 ++ (wsL_compose_r6 ++ wsL_compose_r7)))))) ++ wsX00 ++ wsX20 ++ wsJx4a65c0 ++ (vx_atS RX2 49 "java/lang/IllegalArgumentException" ["java/lang/RuntimeException", "java/lang/Exception"]).filter goodWord ++ (vx_atS RX2 79 "java/lang/IndexOutOfBoundsException" ["java/lang/RuntimeException", "java/lang/Exception"]).filter goodWord ++ (vx_atS RX2 56 "java/lang/IllegalStateException" ["java/lang/RuntimeException", "java/lang/Exception"]).filter goodWord)
def wsL_instructions_r1 : List Cond := [Cond.classLink RL 25 "java/lang/IndexOutOfBoundsException", Cond.methodLink RL 51 yX2_instructions, Cond.instanceMethod yX2_instructions, Cond.selects RX2 yX2_instructions yX2_instructions, Cond.initialized RX2, Cond.code yX2_instructions cX2_instructions 2 (some .int), Cond.fieldLink RX2 142 "DeltaUpdater$Patch" "starts" "[I", Cond.methodLink RX2 120 yX2_patchOf, Cond.instanceMethod yX2_patchOf, Cond.selects RX2 yX2_patchOf yX2_patchOf, Cond.code yX2_patchOf cX2_patchOf 2 (some (.object "DeltaUpdater$Patch")), Cond.classLink RX2 75 "java/lang/IndexOutOfBoundsException", Cond.initialized "java/lang/IndexOutOfBoundsException", Cond.fieldLink RX2 24 "DeltaUpdater" "made" "Ljava/util/ArrayList;", Cond.classLink RX2 111 "DeltaUpdater$Patch", Cond.methodLink RX2 64 yJx4a65c_size_8abf5, Cond.instanceMethod yJx4a65c_size_8abf5, Cond.selects RJx4a65c yJx4a65c_size_8abf5 yJx4a65c_size_8abf5, Cond.initialized RJx4a65c, Cond.code yJx4a65c_size_8abf5 cJx4a65c_size_8abf5 1 (some .int), Cond.fieldLink RJx4a65c 48 "java/util/ArrayList" "size" "I", Cond.methodLink RX2 172 yJx4a65c_get_915e3, Cond.instanceMethod yJx4a65c_get_915e3, Cond.selects RJx4a65c yJx4a65c_get_915e3 yJx4a65c_get_915e3]
def wsL_instructions_r2 : List Cond := [Cond.code yJx4a65c_get_915e3 cJx4a65c_get_915e3 2 (some (.object "java/lang/Object")), Cond.methodLink RJx4a65c 118 yJ15_checkIndex_7cf53, Cond.static yJ15_checkIndex_7cf53, Cond.initialized RJ15, Cond.code yJ15_checkIndex_7cf53 cJ15_checkIndex_7cf53 2 (some .int), Cond.methodLink RJ15 105 yJ3_checkIndex_8e157, Cond.static yJ3_checkIndex_8e157, Cond.initialized RJ3, Cond.code yJ3_checkIndex_8e157 cJ3_checkIndex_8e157 3 (some .int), Cond.methodLink RJx4a65c 123 yJx4a65c_elementData_915e3, Cond.instanceMethod yJx4a65c_elementData_915e3, Cond.selects RJx4a65c yJx4a65c_elementData_915e3 yJx4a65c_elementData_915e3, Cond.code yJx4a65c_elementData_915e3 cJx4a65c_elementData_915e3 2 (some (.object "java/lang/Object")), Cond.fieldLink RJx4a65c 9 "java/util/ArrayList" "elementData" "[Ljava/lang/Object;"]
def wsL_instructions : List Cond := .codeWith yL_instructions cL_instructions 4 (some .int) [(0, 9, 12, 25)] :: ((wsL_instructions_r1 ++ wsL_instructions_r2) ++ wsX00 ++ wsX20 ++ wsJx4a65c0 ++ (vx_atS RX2 79 "java/lang/IndexOutOfBoundsException" ["java/lang/RuntimeException", "java/lang/Exception"]).filter goodWord)
def wsL_instruction_r1 : List Cond := [Cond.classLink RL 25 "java/lang/IndexOutOfBoundsException", Cond.methodLink RL 54 yX2_instruction, Cond.instanceMethod yX2_instruction, Cond.selects RX2 yX2_instruction yX2_instruction, Cond.initialized RX2, Cond.code yX2_instruction cX2_instruction 5 (some .int), Cond.classLink RX2 75 "java/lang/IndexOutOfBoundsException", Cond.initialized "java/lang/IndexOutOfBoundsException", Cond.fieldLink RX2 142 "DeltaUpdater$Patch" "starts" "[I", Cond.methodLink RX2 120 yX2_patchOf, Cond.instanceMethod yX2_patchOf, Cond.selects RX2 yX2_patchOf yX2_patchOf, Cond.code yX2_patchOf cX2_patchOf 2 (some (.object "DeltaUpdater$Patch")), Cond.fieldLink RX2 24 "DeltaUpdater" "made" "Ljava/util/ArrayList;", Cond.classLink RX2 111 "DeltaUpdater$Patch", Cond.methodLink RX2 64 yJx4a65c_size_8abf5, Cond.instanceMethod yJx4a65c_size_8abf5, Cond.selects RJx4a65c yJx4a65c_size_8abf5 yJx4a65c_size_8abf5, Cond.initialized RJx4a65c, Cond.code yJx4a65c_size_8abf5 cJx4a65c_size_8abf5 1 (some .int), Cond.fieldLink RJx4a65c 48 "java/util/ArrayList" "size" "I", Cond.methodLink RX2 172 yJx4a65c_get_915e3, Cond.instanceMethod yJx4a65c_get_915e3, Cond.selects RJx4a65c yJx4a65c_get_915e3 yJx4a65c_get_915e3]
def wsL_instruction_r2 : List Cond := [Cond.code yJx4a65c_get_915e3 cJx4a65c_get_915e3 2 (some (.object "java/lang/Object")), Cond.methodLink RJx4a65c 118 yJ15_checkIndex_7cf53, Cond.static yJ15_checkIndex_7cf53, Cond.initialized RJ15, Cond.code yJ15_checkIndex_7cf53 cJ15_checkIndex_7cf53 2 (some .int), Cond.methodLink RJ15 105 yJ3_checkIndex_8e157, Cond.static yJ3_checkIndex_8e157, Cond.initialized RJ3, Cond.code yJ3_checkIndex_8e157 cJ3_checkIndex_8e157 3 (some .int), Cond.methodLink RJx4a65c 123 yJx4a65c_elementData_915e3, Cond.instanceMethod yJx4a65c_elementData_915e3, Cond.selects RJx4a65c yJx4a65c_elementData_915e3 yJx4a65c_elementData_915e3, Cond.code yJx4a65c_elementData_915e3 cJx4a65c_elementData_915e3 2 (some (.object "java/lang/Object")), Cond.fieldLink RJx4a65c 9 "java/util/ArrayList" "elementData" "[Ljava/lang/Object;", Cond.methodLink RX2 149 yX0_tell, Cond.instanceMethod yX0_tell, Cond.selects RX0 yX0_tell yX0_tell, Cond.initialized RX0, Cond.code yX0_tell cX0_tell 6 (some .int), Cond.fieldLink RX0 30 "DeltaUpdater$Patch" "starts" "[I", Cond.fieldLink RX0 22 "DeltaUpdater$Patch" "origins" "[I", Cond.fieldLink RX0 18 "DeltaUpdater$Patch" "goalRow" "LDeltaUpdater$Row;", Cond.methodLink RX0 57 yX1_sumOf, Cond.instanceMethod yX1_sumOf]
def wsL_instruction_r3 : List Cond := [Cond.selects RX1 yX1_sumOf yX1_sumOf, Cond.initialized RX1, Cond.code yX1_sumOf cX1_sumOf 6 (some .int), Cond.fieldLink RX1 13 "DeltaUpdater$Row" "bytes" "[I"]
def wsL_instruction : List Cond := .codeWith yL_instruction cL_instruction 6 (some .int) [(0, 12, 15, 25)] :: ((wsL_instruction_r1 ++ (wsL_instruction_r2 ++ wsL_instruction_r3)) ++ wsX00 ++ wsX20 ++ wsJx4a65c0 ++ wsX10 ++ (vx_atS RX2 79 "java/lang/IndexOutOfBoundsException" ["java/lang/RuntimeException", "java/lang/Exception"]).filter goodWord)
def wsL_cost_r1 : List Cond := [Cond.classLink RL 25 "java/lang/IndexOutOfBoundsException", Cond.methodLink RL 57 yX2_cost, Cond.instanceMethod yX2_cost, Cond.selects RX2 yX2_cost yX2_cost, Cond.initialized RX2, Cond.code yX2_cost cX2_cost 2 (some .int), Cond.fieldLink RX2 152 "DeltaUpdater$Patch" "price" "I", Cond.methodLink RX2 120 yX2_patchOf, Cond.instanceMethod yX2_patchOf, Cond.selects RX2 yX2_patchOf yX2_patchOf, Cond.code yX2_patchOf cX2_patchOf 2 (some (.object "DeltaUpdater$Patch")), Cond.classLink RX2 75 "java/lang/IndexOutOfBoundsException", Cond.initialized "java/lang/IndexOutOfBoundsException", Cond.fieldLink RX2 24 "DeltaUpdater" "made" "Ljava/util/ArrayList;", Cond.classLink RX2 111 "DeltaUpdater$Patch", Cond.methodLink RX2 64 yJx4a65c_size_8abf5, Cond.instanceMethod yJx4a65c_size_8abf5, Cond.selects RJx4a65c yJx4a65c_size_8abf5 yJx4a65c_size_8abf5, Cond.initialized RJx4a65c, Cond.code yJx4a65c_size_8abf5 cJx4a65c_size_8abf5 1 (some .int), Cond.fieldLink RJx4a65c 48 "java/util/ArrayList" "size" "I", Cond.methodLink RX2 172 yJx4a65c_get_915e3, Cond.instanceMethod yJx4a65c_get_915e3, Cond.selects RJx4a65c yJx4a65c_get_915e3 yJx4a65c_get_915e3]
def wsL_cost_r2 : List Cond := [Cond.code yJx4a65c_get_915e3 cJx4a65c_get_915e3 2 (some (.object "java/lang/Object")), Cond.methodLink RJx4a65c 118 yJ15_checkIndex_7cf53, Cond.static yJ15_checkIndex_7cf53, Cond.initialized RJ15, Cond.code yJ15_checkIndex_7cf53 cJ15_checkIndex_7cf53 2 (some .int), Cond.methodLink RJ15 105 yJ3_checkIndex_8e157, Cond.static yJ3_checkIndex_8e157, Cond.initialized RJ3, Cond.code yJ3_checkIndex_8e157 cJ3_checkIndex_8e157 3 (some .int), Cond.methodLink RJx4a65c 123 yJx4a65c_elementData_915e3, Cond.instanceMethod yJx4a65c_elementData_915e3, Cond.selects RJx4a65c yJx4a65c_elementData_915e3 yJx4a65c_elementData_915e3, Cond.code yJx4a65c_elementData_915e3 cJx4a65c_elementData_915e3 2 (some (.object "java/lang/Object")), Cond.fieldLink RJx4a65c 9 "java/util/ArrayList" "elementData" "[Ljava/lang/Object;"]
def wsL_cost : List Cond := .codeWith yL_cost cL_cost 4 (some .int) [(0, 9, 12, 25)] :: ((wsL_cost_r1 ++ wsL_cost_r2) ++ wsX00 ++ wsX20 ++ wsJx4a65c0 ++ (vx_atS RX2 79 "java/lang/IndexOutOfBoundsException" ["java/lang/RuntimeException", "java/lang/Exception"]).filter goodWord)
def wsL_newness_r1 : List Cond := [Cond.classLink RL 25 "java/lang/IndexOutOfBoundsException", Cond.methodLink RL 60 yX2_newness, Cond.instanceMethod yX2_newness, Cond.selects RX2 yX2_newness yX2_newness, Cond.initialized RX2, Cond.code yX2_newness cX2_newness 4 (some .double), Cond.fieldLink RX2 132 "DeltaUpdater$Patch" "origins" "[I", Cond.fieldLink RX2 155 "DeltaUpdater$Patch" "literalBytes" "I", Cond.methodLink RX2 120 yX2_patchOf, Cond.instanceMethod yX2_patchOf, Cond.selects RX2 yX2_patchOf yX2_patchOf, Cond.code yX2_patchOf cX2_patchOf 2 (some (.object "DeltaUpdater$Patch")), Cond.classLink RX2 75 "java/lang/IndexOutOfBoundsException", Cond.initialized "java/lang/IndexOutOfBoundsException", Cond.fieldLink RX2 24 "DeltaUpdater" "made" "Ljava/util/ArrayList;", Cond.classLink RX2 111 "DeltaUpdater$Patch", Cond.methodLink RX2 64 yJx4a65c_size_8abf5, Cond.instanceMethod yJx4a65c_size_8abf5, Cond.selects RJx4a65c yJx4a65c_size_8abf5 yJx4a65c_size_8abf5, Cond.initialized RJx4a65c, Cond.code yJx4a65c_size_8abf5 cJx4a65c_size_8abf5 1 (some .int), Cond.fieldLink RJx4a65c 48 "java/util/ArrayList" "size" "I", Cond.methodLink RX2 172 yJx4a65c_get_915e3, Cond.instanceMethod yJx4a65c_get_915e3]
def wsL_newness_r2 : List Cond := [Cond.selects RJx4a65c yJx4a65c_get_915e3 yJx4a65c_get_915e3, Cond.code yJx4a65c_get_915e3 cJx4a65c_get_915e3 2 (some (.object "java/lang/Object")), Cond.methodLink RJx4a65c 118 yJ15_checkIndex_7cf53, Cond.static yJ15_checkIndex_7cf53, Cond.initialized RJ15, Cond.code yJ15_checkIndex_7cf53 cJ15_checkIndex_7cf53 2 (some .int), Cond.methodLink RJ15 105 yJ3_checkIndex_8e157, Cond.static yJ3_checkIndex_8e157, Cond.initialized RJ3, Cond.code yJ3_checkIndex_8e157 cJ3_checkIndex_8e157 3 (some .int), Cond.methodLink RJx4a65c 123 yJx4a65c_elementData_915e3, Cond.instanceMethod yJx4a65c_elementData_915e3, Cond.selects RJx4a65c yJx4a65c_elementData_915e3 yJx4a65c_elementData_915e3, Cond.code yJx4a65c_elementData_915e3 cJx4a65c_elementData_915e3 2 (some (.object "java/lang/Object")), Cond.fieldLink RJx4a65c 9 "java/util/ArrayList" "elementData" "[Ljava/lang/Object;"]
def wsL_newness : List Cond := .codeWith yL_newness cL_newness 4 (some .int) [(0, 8, 11, 25)] :: ((wsL_newness_r1 ++ wsL_newness_r2) ++ wsX00 ++ wsX20 ++ wsJx4a65c0 ++ (vx_atS RX2 79 "java/lang/IndexOutOfBoundsException" ["java/lang/RuntimeException", "java/lang/Exception"]).filter goodWord)
def wsL_apply_r1 : List Cond := [Cond.classLink RL 25 "java/lang/IndexOutOfBoundsException", Cond.classLink RL 13 "java/lang/IllegalArgumentException", Cond.classLink RL 15 "java/lang/IllegalStateException", Cond.methodLink RL 64 yX2_apply, Cond.instanceMethod yX2_apply, Cond.selects RX2 yX2_apply yX2_apply, Cond.initialized RX2, Cond.code yX2_apply cX2_apply 5 (some .int), Cond.classLink RX2 45 "java/lang/IllegalArgumentException", Cond.initialized "java/lang/IllegalArgumentException", Cond.fieldLink RX2 127 "DeltaUpdater$Patch" "base" "I", Cond.fieldLink RX2 20 "DeltaUpdater" "stored" "Ljava/util/ArrayList;", Cond.fieldLink RX2 139 "DeltaUpdater$Patch" "goalRow" "LDeltaUpdater$Row;", Cond.methodLink RX2 120 yX2_patchOf, Cond.instanceMethod yX2_patchOf, Cond.selects RX2 yX2_patchOf yX2_patchOf, Cond.code yX2_patchOf cX2_patchOf 2 (some (.object "DeltaUpdater$Patch")), Cond.classLink RX2 75 "java/lang/IndexOutOfBoundsException", Cond.initialized "java/lang/IndexOutOfBoundsException", Cond.fieldLink RX2 24 "DeltaUpdater" "made" "Ljava/util/ArrayList;", Cond.classLink RX2 111 "DeltaUpdater$Patch", Cond.methodLink RX2 64 yJx4a65c_size_8abf5, Cond.instanceMethod yJx4a65c_size_8abf5, Cond.selects RJx4a65c yJx4a65c_size_8abf5 yJx4a65c_size_8abf5]
def wsL_apply_r2 : List Cond := [Cond.initialized RJx4a65c, Cond.code yJx4a65c_size_8abf5 cJx4a65c_size_8abf5 1 (some .int), Cond.fieldLink RJx4a65c 48 "java/util/ArrayList" "size" "I", Cond.methodLink RX2 172 yJx4a65c_get_915e3, Cond.instanceMethod yJx4a65c_get_915e3, Cond.selects RJx4a65c yJx4a65c_get_915e3 yJx4a65c_get_915e3, Cond.code yJx4a65c_get_915e3 cJx4a65c_get_915e3 2 (some (.object "java/lang/Object")), Cond.methodLink RJx4a65c 118 yJ15_checkIndex_7cf53, Cond.static yJ15_checkIndex_7cf53, Cond.initialized RJ15, Cond.code yJ15_checkIndex_7cf53 cJ15_checkIndex_7cf53 2 (some .int), Cond.methodLink RJ15 105 yJ3_checkIndex_8e157, Cond.static yJ3_checkIndex_8e157, Cond.initialized RJ3, Cond.code yJ3_checkIndex_8e157 cJ3_checkIndex_8e157 3 (some .int), Cond.methodLink RJx4a65c 123 yJx4a65c_elementData_915e3, Cond.instanceMethod yJx4a65c_elementData_915e3, Cond.selects RJx4a65c yJx4a65c_elementData_915e3 yJx4a65c_elementData_915e3, Cond.code yJx4a65c_elementData_915e3 cJx4a65c_elementData_915e3 2 (some (.object "java/lang/Object")), Cond.fieldLink RJx4a65c 9 "java/util/ArrayList" "elementData" "[Ljava/lang/Object;", Cond.methodLink RX2 68 yX2_rowOf, Cond.instanceMethod yX2_rowOf, Cond.selects RX2 yX2_rowOf yX2_rowOf, Cond.code yX2_rowOf cX2_rowOf 2 (some (.object "DeltaUpdater$Row"))]
def wsL_apply_r3 : List Cond := [Cond.classLink RX2 27 "DeltaUpdater$Row", Cond.methodLink RX2 80 yX1_hasBytesOf, Cond.instanceMethod yX1_hasBytesOf, Cond.selects RX1 yX1_hasBytesOf yX1_hasBytesOf, Cond.initialized RX1, Cond.code yX1_hasBytesOf cX1_hasBytesOf 2 (some .boolean), Cond.fieldLink RX1 13 "DeltaUpdater$Row" "bytes" "[I", Cond.methodLink RX1 19 yX1_hasStretch, Cond.instanceMethod yX1_hasStretch, Cond.selects RX1 yX1_hasStretch yX1_hasStretch, Cond.code yX1_hasStretch cX1_hasStretch 6 (some .boolean), Cond.methodLink RX2 57 yX2_checkRoomForVersion, Cond.instanceMethod yX2_checkRoomForVersion, Cond.selects RX2 yX2_checkRoomForVersion yX2_checkRoomForVersion, Cond.code yX2_checkRoomForVersion cX2_checkRoomForVersion 1 none, Cond.classLink RX2 52 "java/lang/IllegalStateException", Cond.initialized "java/lang/IllegalStateException", Cond.methodLink RX2 60 yJx4a65c_add_9ea2d, Cond.instanceMethod yJx4a65c_add_9ea2d, Cond.selects RJx4a65c yJx4a65c_add_9ea2d yJx4a65c_add_9ea2d, Cond.code yJx4a65c_add_9ea2d cJx4a65c_add_9ea2d 2 (some .boolean), Cond.fieldLink RJx4a65c 63 "java/util/ArrayList" "modCount" "I", Cond.sameField "java/util/ArrayList" "java/util/AbstractList" "modCount" "I", Cond.methodLink RJx4a65c 131 yJx4a65c_add_72be8]
def wsL_apply_r4 : List Cond := [Cond.instanceMethod yJx4a65c_add_72be8, Cond.selects RJx4a65c yJx4a65c_add_72be8 yJx4a65c_add_72be8, Cond.code yJx4a65c_add_72be8 cJx4a65c_add_72be8 4 none, Cond.methodLink RJx4a65c 129 yJx4a65c_grow_d5877, Cond.instanceMethod yJx4a65c_grow_d5877, Cond.selects RJx4a65c yJx4a65c_grow_d5877 yJx4a65c_grow_d5877, Cond.code yJx4a65c_grow_d5877 cJx4a65c_grow_d5877 1 (some (.array (.object "java/lang/Object"))), Cond.methodLink RJx4a65c 69 yJx4a65c_grow_92f84, Cond.instanceMethod yJx4a65c_grow_92f84, Cond.selects RJx4a65c yJx4a65c_grow_92f84 yJx4a65c_grow_92f84, Cond.code yJx4a65c_grow_92f84 cJx4a65c_grow_92f84 4 (some (.array (.object "java/lang/Object"))), Cond.fieldLink RJx4a65c 39 "java/util/ArrayList" "DEFAULTCAPACITY_EMPTY_ELEMENTDATA" "[Ljava/lang/Object;", Cond.methodLink RJx4a65c 79 Lib.Math.max.name, Cond.static Lib.Math.max.name, Cond.initialized "java/lang/Math", Cond.code Lib.Math.max.name Lib.Math.max.code 2 (some .int), Cond.classLink RJx4a65c 7 "java/lang/Object", Cond.methodLink RJx4a65c 73 yJ8_newLength_cabcc, Cond.static yJ8_newLength_cabcc, Cond.initialized RJ8, Cond.code yJ8_newLength_cabcc cJ8_newLength_cabcc 4 (some .int), Cond.methodLink RJ8 194 Lib.Math.max.name, Cond.constant RJ8 200 (2147483639), Cond.methodLink RJ8 201 yJ8_hugeLength_7cf53]
def wsL_apply_r5 : List Cond := [Cond.static yJ8_hugeLength_7cf53, Cond.code yJ8_hugeLength_7cf53 cJ8_hugeLength_7cf53 3 (some .int), Cond.methodLink RJx4a65c 66 yJ7_copyOf_1904c, Cond.static yJ7_copyOf_1904c, Cond.initialized RJ7, Cond.code yJ7_copyOf_1904c cJ7_copyOf_1904c 2 (some (.array (.object "java/lang/Object"))), Cond.methodLink RJ7 86 ⟨"java/lang/Object", "getClass", "()Ljava/lang/Class;"⟩, Cond.selects "[Ljava/lang/Object;" ⟨"java/lang/Object", "getClass", "()Ljava/lang/Class;"⟩ ⟨"java/lang/Object", "getClass", "()Ljava/lang/Class;"⟩, Cond.instanceMethod ⟨"java/lang/Object", "getClass", "()Ljava/lang/Class;"⟩, Cond.native ⟨"java/lang/Object", "getClass", "()Ljava/lang/Class;"⟩, Cond.methodLink RJ7 300 yJ7_copyOf_6403c, Cond.static yJ7_copyOf_6403c, Cond.code yJ7_copyOf_6403c cJ7_copyOf_6403c 4 (some (.array (.object "java/lang/Object"))), Cond.classLink RJ7 110 "[Ljava/lang/Object;", Cond.classLink RJ7 2 "java/lang/Object", Cond.methodLink RJ7 304 Lib.Math.min.name, Cond.static Lib.Math.min.name, Cond.code Lib.Math.min.name Lib.Math.min.code 2 (some .int), Cond.methodLink RJ7 150 arraycopyName, Cond.native arraycopyName, Cond.static arraycopyName, Cond.initialized "java/lang/System"]
def wsL_apply : List Cond := .codeWith yL_apply cL_apply 5 (some .int) [(0, 10, 13, 25), (0, 10, 17, 13), (0, 10, 21, 15)] :: ((wsL_apply_r1 ++ (wsL_apply_r2 ++ (wsL_apply_r3 ++ (wsL_apply_r4 ++ wsL_apply_r5)))) ++ wsX00 ++ wsX20 ++ wsJx4a65c0 ++ wsX10 ++ (vx_atS RX2 49 "java/lang/IllegalArgumentException" ["java/lang/RuntimeException", "java/lang/Exception"]).filter goodWord ++ (vx_atS RX2 79 "java/lang/IndexOutOfBoundsException" ["java/lang/RuntimeException", "java/lang/Exception"]).filter goodWord ++ (vx_atS RX2 56 "java/lang/IllegalStateException" ["java/lang/RuntimeException", "java/lang/Exception"]).filter goodWord)
def wsL_steps_r1 : List Cond := [Cond.classLink RL 25 "java/lang/IndexOutOfBoundsException", Cond.methodLink RL 67 yX2_steps, Cond.instanceMethod yX2_steps, Cond.selects RX2 yX2_steps yX2_steps, Cond.initialized RX2, Cond.code yX2_steps cX2_steps 3 (some .int), Cond.methodLink RX2 160 yX2_leastWay, Cond.instanceMethod yX2_leastWay, Cond.selects RX2 yX2_leastWay yX2_leastWay, Cond.code yX2_leastWay cX2_leastWay 9 (some .int), Cond.fieldLink RX2 42 "DeltaUpdater" "reached" "[I", Cond.fieldLink RX2 24 "DeltaUpdater" "made" "Ljava/util/ArrayList;", Cond.classLink RX2 111 "DeltaUpdater$Patch", Cond.fieldLink RX2 152 "DeltaUpdater$Patch" "price" "I", Cond.methodLink RX2 113 yX2_firstLike, Cond.instanceMethod yX2_firstLike, Cond.selects RX2 yX2_firstLike yX2_firstLike, Cond.code yX2_firstLike cX2_firstLike 4 (some .int), Cond.methodLink RX2 68 yX2_rowOf, Cond.instanceMethod yX2_rowOf, Cond.selects RX2 yX2_rowOf yX2_rowOf, Cond.code yX2_rowOf cX2_rowOf 2 (some (.object "DeltaUpdater$Row")), Cond.classLink RX2 75 "java/lang/IndexOutOfBoundsException", Cond.initialized "java/lang/IndexOutOfBoundsException"]
def wsL_steps_r2 : List Cond := [Cond.fieldLink RX2 20 "DeltaUpdater" "stored" "Ljava/util/ArrayList;", Cond.classLink RX2 27 "DeltaUpdater$Row", Cond.methodLink RX2 64 yJx4a65c_size_8abf5, Cond.instanceMethod yJx4a65c_size_8abf5, Cond.selects RJx4a65c yJx4a65c_size_8abf5 yJx4a65c_size_8abf5, Cond.initialized RJx4a65c, Cond.code yJx4a65c_size_8abf5 cJx4a65c_size_8abf5 1 (some .int), Cond.fieldLink RJx4a65c 48 "java/util/ArrayList" "size" "I", Cond.methodLink RX2 172 yJx4a65c_get_915e3, Cond.instanceMethod yJx4a65c_get_915e3, Cond.selects RJx4a65c yJx4a65c_get_915e3 yJx4a65c_get_915e3, Cond.code yJx4a65c_get_915e3 cJx4a65c_get_915e3 2 (some (.object "java/lang/Object")), Cond.methodLink RJx4a65c 118 yJ15_checkIndex_7cf53, Cond.static yJ15_checkIndex_7cf53, Cond.initialized RJ15, Cond.code yJ15_checkIndex_7cf53 cJ15_checkIndex_7cf53 2 (some .int), Cond.methodLink RJ15 105 yJ3_checkIndex_8e157, Cond.static yJ3_checkIndex_8e157, Cond.initialized RJ3, Cond.code yJ3_checkIndex_8e157 cJ3_checkIndex_8e157 3 (some .int), Cond.methodLink RJx4a65c 123 yJx4a65c_elementData_915e3, Cond.instanceMethod yJx4a65c_elementData_915e3, Cond.selects RJx4a65c yJx4a65c_elementData_915e3 yJx4a65c_elementData_915e3, Cond.code yJx4a65c_elementData_915e3 cJx4a65c_elementData_915e3 2 (some (.object "java/lang/Object"))]
def wsL_steps_r3 : List Cond := [Cond.fieldLink RJx4a65c 9 "java/util/ArrayList" "elementData" "[Ljava/lang/Object;", Cond.methodLink RX2 80 yX1_hasBytesOf, Cond.instanceMethod yX1_hasBytesOf, Cond.selects RX1 yX1_hasBytesOf yX1_hasBytesOf, Cond.initialized RX1, Cond.code yX1_hasBytesOf cX1_hasBytesOf 2 (some .boolean), Cond.fieldLink RX1 13 "DeltaUpdater$Row" "bytes" "[I", Cond.methodLink RX1 19 yX1_hasStretch, Cond.instanceMethod yX1_hasStretch, Cond.selects RX1 yX1_hasStretch yX1_hasStretch, Cond.code yX1_hasStretch cX1_hasStretch 6 (some .boolean), Cond.methodLink RX2 205 yJ7_fill_53178, Cond.static yJ7_fill_53178, Cond.initialized RJ7, Cond.code yJ7_fill_53178 cJ7_fill_53178 4 none, Cond.methodLink RX2 210 yX2_reachBy, Cond.instanceMethod yX2_reachBy, Cond.selects RX2 yX2_reachBy yX2_reachBy, Cond.code yX2_reachBy cX2_reachBy 5 none, Cond.fieldLink RX2 127 "DeltaUpdater$Patch" "base" "I", Cond.fieldLink RX2 124 "DeltaUpdater$Patch" "goal" "I"]
def wsL_steps : List Cond := .codeWith yL_steps cL_steps 5 (some .int) [(0, 10, 13, 25)] :: ((wsL_steps_r1 ++ (wsL_steps_r2 ++ wsL_steps_r3)) ++ wsX20 ++ wsX00 ++ wsJx4a65c0 ++ wsX10 ++ (vx_atS RX2 79 "java/lang/IndexOutOfBoundsException" ["java/lang/RuntimeException", "java/lang/Exception"]).filter goodWord)
def wsL_leastCost_r1 : List Cond := [Cond.classLink RL 25 "java/lang/IndexOutOfBoundsException", Cond.methodLink RL 70 yX2_leastCost, Cond.instanceMethod yX2_leastCost, Cond.selects RX2 yX2_leastCost yX2_leastCost, Cond.initialized RX2, Cond.code yX2_leastCost cX2_leastCost 3 (some .int), Cond.methodLink RX2 160 yX2_leastWay, Cond.instanceMethod yX2_leastWay, Cond.selects RX2 yX2_leastWay yX2_leastWay, Cond.code yX2_leastWay cX2_leastWay 9 (some .int), Cond.fieldLink RX2 42 "DeltaUpdater" "reached" "[I", Cond.fieldLink RX2 24 "DeltaUpdater" "made" "Ljava/util/ArrayList;", Cond.classLink RX2 111 "DeltaUpdater$Patch", Cond.fieldLink RX2 152 "DeltaUpdater$Patch" "price" "I", Cond.methodLink RX2 113 yX2_firstLike, Cond.instanceMethod yX2_firstLike, Cond.selects RX2 yX2_firstLike yX2_firstLike, Cond.code yX2_firstLike cX2_firstLike 4 (some .int), Cond.methodLink RX2 68 yX2_rowOf, Cond.instanceMethod yX2_rowOf, Cond.selects RX2 yX2_rowOf yX2_rowOf, Cond.code yX2_rowOf cX2_rowOf 2 (some (.object "DeltaUpdater$Row")), Cond.classLink RX2 75 "java/lang/IndexOutOfBoundsException", Cond.initialized "java/lang/IndexOutOfBoundsException"]
def wsL_leastCost_r2 : List Cond := [Cond.fieldLink RX2 20 "DeltaUpdater" "stored" "Ljava/util/ArrayList;", Cond.classLink RX2 27 "DeltaUpdater$Row", Cond.methodLink RX2 64 yJx4a65c_size_8abf5, Cond.instanceMethod yJx4a65c_size_8abf5, Cond.selects RJx4a65c yJx4a65c_size_8abf5 yJx4a65c_size_8abf5, Cond.initialized RJx4a65c, Cond.code yJx4a65c_size_8abf5 cJx4a65c_size_8abf5 1 (some .int), Cond.fieldLink RJx4a65c 48 "java/util/ArrayList" "size" "I", Cond.methodLink RX2 172 yJx4a65c_get_915e3, Cond.instanceMethod yJx4a65c_get_915e3, Cond.selects RJx4a65c yJx4a65c_get_915e3 yJx4a65c_get_915e3, Cond.code yJx4a65c_get_915e3 cJx4a65c_get_915e3 2 (some (.object "java/lang/Object")), Cond.methodLink RJx4a65c 118 yJ15_checkIndex_7cf53, Cond.static yJ15_checkIndex_7cf53, Cond.initialized RJ15, Cond.code yJ15_checkIndex_7cf53 cJ15_checkIndex_7cf53 2 (some .int), Cond.methodLink RJ15 105 yJ3_checkIndex_8e157, Cond.static yJ3_checkIndex_8e157, Cond.initialized RJ3, Cond.code yJ3_checkIndex_8e157 cJ3_checkIndex_8e157 3 (some .int), Cond.methodLink RJx4a65c 123 yJx4a65c_elementData_915e3, Cond.instanceMethod yJx4a65c_elementData_915e3, Cond.selects RJx4a65c yJx4a65c_elementData_915e3 yJx4a65c_elementData_915e3, Cond.code yJx4a65c_elementData_915e3 cJx4a65c_elementData_915e3 2 (some (.object "java/lang/Object"))]
def wsL_leastCost_r3 : List Cond := [Cond.fieldLink RJx4a65c 9 "java/util/ArrayList" "elementData" "[Ljava/lang/Object;", Cond.methodLink RX2 80 yX1_hasBytesOf, Cond.instanceMethod yX1_hasBytesOf, Cond.selects RX1 yX1_hasBytesOf yX1_hasBytesOf, Cond.initialized RX1, Cond.code yX1_hasBytesOf cX1_hasBytesOf 2 (some .boolean), Cond.fieldLink RX1 13 "DeltaUpdater$Row" "bytes" "[I", Cond.methodLink RX1 19 yX1_hasStretch, Cond.instanceMethod yX1_hasStretch, Cond.selects RX1 yX1_hasStretch yX1_hasStretch, Cond.code yX1_hasStretch cX1_hasStretch 6 (some .boolean), Cond.methodLink RX2 205 yJ7_fill_53178, Cond.static yJ7_fill_53178, Cond.initialized RJ7, Cond.code yJ7_fill_53178 cJ7_fill_53178 4 none, Cond.methodLink RX2 210 yX2_reachBy, Cond.instanceMethod yX2_reachBy, Cond.selects RX2 yX2_reachBy yX2_reachBy, Cond.code yX2_reachBy cX2_reachBy 5 none, Cond.fieldLink RX2 127 "DeltaUpdater$Patch" "base" "I", Cond.fieldLink RX2 124 "DeltaUpdater$Patch" "goal" "I"]
def wsL_leastCost : List Cond := .codeWith yL_leastCost cL_leastCost 5 (some .int) [(0, 10, 13, 25)] :: ((wsL_leastCost_r1 ++ (wsL_leastCost_r2 ++ wsL_leastCost_r3)) ++ wsX20 ++ wsX00 ++ wsJx4a65c0 ++ wsX10 ++ (vx_atS RX2 79 "java/lang/IndexOutOfBoundsException" ["java/lang/RuntimeException", "java/lang/Exception"]).filter goodWord)
def wsL_installVersion_r1 : List Cond := [Cond.classLink RL 25 "java/lang/IndexOutOfBoundsException", Cond.methodLink RL 73 yX2_installVersion, Cond.instanceMethod yX2_installVersion, Cond.selects RX2 yX2_installVersion yX2_installVersion, Cond.initialized RX2, Cond.code yX2_installVersion cX2_installVersion 2 (some .int), Cond.methodLink RX2 68 yX2_rowOf, Cond.instanceMethod yX2_rowOf, Cond.selects RX2 yX2_rowOf yX2_rowOf, Cond.code yX2_rowOf cX2_rowOf 2 (some (.object "DeltaUpdater$Row")), Cond.classLink RX2 75 "java/lang/IndexOutOfBoundsException", Cond.initialized "java/lang/IndexOutOfBoundsException", Cond.fieldLink RX2 20 "DeltaUpdater" "stored" "Ljava/util/ArrayList;", Cond.classLink RX2 27 "DeltaUpdater$Row", Cond.methodLink RX2 64 yJx4a65c_size_8abf5, Cond.instanceMethod yJx4a65c_size_8abf5, Cond.selects RJx4a65c yJx4a65c_size_8abf5 yJx4a65c_size_8abf5, Cond.initialized RJx4a65c, Cond.code yJx4a65c_size_8abf5 cJx4a65c_size_8abf5 1 (some .int), Cond.fieldLink RJx4a65c 48 "java/util/ArrayList" "size" "I", Cond.methodLink RX2 172 yJx4a65c_get_915e3, Cond.instanceMethod yJx4a65c_get_915e3, Cond.selects RJx4a65c yJx4a65c_get_915e3 yJx4a65c_get_915e3, Cond.code yJx4a65c_get_915e3 cJx4a65c_get_915e3 2 (some (.object "java/lang/Object"))]
def wsL_installVersion_r2 : List Cond := [Cond.methodLink RJx4a65c 118 yJ15_checkIndex_7cf53, Cond.static yJ15_checkIndex_7cf53, Cond.initialized RJ15, Cond.code yJ15_checkIndex_7cf53 cJ15_checkIndex_7cf53 2 (some .int), Cond.methodLink RJ15 105 yJ3_checkIndex_8e157, Cond.static yJ3_checkIndex_8e157, Cond.initialized RJ3, Cond.code yJ3_checkIndex_8e157 cJ3_checkIndex_8e157 3 (some .int), Cond.methodLink RJx4a65c 123 yJx4a65c_elementData_915e3, Cond.instanceMethod yJx4a65c_elementData_915e3, Cond.selects RJx4a65c yJx4a65c_elementData_915e3 yJx4a65c_elementData_915e3, Cond.code yJx4a65c_elementData_915e3 cJx4a65c_elementData_915e3 2 (some (.object "java/lang/Object")), Cond.fieldLink RJx4a65c 9 "java/util/ArrayList" "elementData" "[Ljava/lang/Object;", Cond.methodLink RX2 164 yX2_install, Cond.instanceMethod yX2_install, Cond.selects RX2 yX2_install yX2_install, Cond.code yX2_install cX2_install 2 (some .int), Cond.fieldLink RX2 36 "DeltaUpdater" "history" "Ljava/util/ArrayList;", Cond.fieldLink RX2 32 "DeltaUpdater" "installed" "LDeltaUpdater$Row;", Cond.methodLink RX2 176 yJx4a65c_remove_915e3, Cond.instanceMethod yJx4a65c_remove_915e3, Cond.selects RJx4a65c yJx4a65c_remove_915e3 yJx4a65c_remove_915e3, Cond.code yJx4a65c_remove_915e3 cJx4a65c_remove_915e3 4 (some (.object "java/lang/Object")), Cond.methodLink RJx4a65c 144 yJx4a65c_fastRemove_b59b0]
def wsL_installVersion_r3 : List Cond := [Cond.instanceMethod yJx4a65c_fastRemove_b59b0, Cond.selects RJx4a65c yJx4a65c_fastRemove_b59b0 yJx4a65c_fastRemove_b59b0, Cond.code yJx4a65c_fastRemove_b59b0 cJx4a65c_fastRemove_b59b0 4 none, Cond.fieldLink RJx4a65c 63 "java/util/ArrayList" "modCount" "I", Cond.sameField "java/util/ArrayList" "java/util/AbstractList" "modCount" "I", Cond.methodLink RJx4a65c 112 arraycopyName, Cond.native arraycopyName, Cond.static arraycopyName, Cond.initialized "java/lang/System", Cond.methodLink RX2 60 yJx4a65c_add_9ea2d, Cond.instanceMethod yJx4a65c_add_9ea2d, Cond.selects RJx4a65c yJx4a65c_add_9ea2d yJx4a65c_add_9ea2d, Cond.code yJx4a65c_add_9ea2d cJx4a65c_add_9ea2d 2 (some .boolean), Cond.methodLink RJx4a65c 131 yJx4a65c_add_72be8, Cond.instanceMethod yJx4a65c_add_72be8, Cond.selects RJx4a65c yJx4a65c_add_72be8 yJx4a65c_add_72be8, Cond.code yJx4a65c_add_72be8 cJx4a65c_add_72be8 4 none, Cond.methodLink RJx4a65c 129 yJx4a65c_grow_d5877, Cond.instanceMethod yJx4a65c_grow_d5877, Cond.selects RJx4a65c yJx4a65c_grow_d5877 yJx4a65c_grow_d5877, Cond.code yJx4a65c_grow_d5877 cJx4a65c_grow_d5877 1 (some (.array (.object "java/lang/Object"))), Cond.methodLink RJx4a65c 69 yJx4a65c_grow_92f84, Cond.instanceMethod yJx4a65c_grow_92f84, Cond.selects RJx4a65c yJx4a65c_grow_92f84 yJx4a65c_grow_92f84]
def wsL_installVersion_r4 : List Cond := [Cond.code yJx4a65c_grow_92f84 cJx4a65c_grow_92f84 4 (some (.array (.object "java/lang/Object"))), Cond.fieldLink RJx4a65c 39 "java/util/ArrayList" "DEFAULTCAPACITY_EMPTY_ELEMENTDATA" "[Ljava/lang/Object;", Cond.methodLink RJx4a65c 79 Lib.Math.max.name, Cond.static Lib.Math.max.name, Cond.initialized "java/lang/Math", Cond.code Lib.Math.max.name Lib.Math.max.code 2 (some .int), Cond.classLink RJx4a65c 7 "java/lang/Object", Cond.methodLink RJx4a65c 73 yJ8_newLength_cabcc, Cond.static yJ8_newLength_cabcc, Cond.initialized RJ8, Cond.code yJ8_newLength_cabcc cJ8_newLength_cabcc 4 (some .int), Cond.methodLink RJ8 194 Lib.Math.max.name, Cond.constant RJ8 200 (2147483639), Cond.methodLink RJ8 201 yJ8_hugeLength_7cf53, Cond.static yJ8_hugeLength_7cf53, Cond.code yJ8_hugeLength_7cf53 cJ8_hugeLength_7cf53 3 (some .int), Cond.methodLink RJx4a65c 66 yJ7_copyOf_1904c, Cond.static yJ7_copyOf_1904c, Cond.initialized RJ7, Cond.code yJ7_copyOf_1904c cJ7_copyOf_1904c 2 (some (.array (.object "java/lang/Object"))), Cond.methodLink RJ7 86 ⟨"java/lang/Object", "getClass", "()Ljava/lang/Class;"⟩, Cond.selects "[Ljava/lang/Object;" ⟨"java/lang/Object", "getClass", "()Ljava/lang/Class;"⟩ ⟨"java/lang/Object", "getClass", "()Ljava/lang/Class;"⟩, Cond.instanceMethod ⟨"java/lang/Object", "getClass", "()Ljava/lang/Class;"⟩, Cond.native ⟨"java/lang/Object", "getClass", "()Ljava/lang/Class;"⟩]
def wsL_installVersion_r5 : List Cond := [Cond.methodLink RJ7 300 yJ7_copyOf_6403c, Cond.static yJ7_copyOf_6403c, Cond.code yJ7_copyOf_6403c cJ7_copyOf_6403c 4 (some (.array (.object "java/lang/Object"))), Cond.classLink RJ7 110 "[Ljava/lang/Object;", Cond.classLink RJ7 2 "java/lang/Object", Cond.methodLink RJ7 304 Lib.Math.min.name, Cond.static Lib.Math.min.name, Cond.code Lib.Math.min.name Lib.Math.min.code 2 (some .int), Cond.methodLink RJ7 150 arraycopyName]
def wsL_installVersion : List Cond := .codeWith yL_installVersion cL_installVersion 4 (some .int) [(0, 9, 12, 25)] :: ((wsL_installVersion_r1 ++ (wsL_installVersion_r2 ++ (wsL_installVersion_r3 ++ (wsL_installVersion_r4 ++ wsL_installVersion_r5)))) ++ wsX20 ++ wsJx4a65c0 ++ (vx_atS RX2 79 "java/lang/IndexOutOfBoundsException" ["java/lang/RuntimeException", "java/lang/Exception"]).filter goodWord)
def wsL_installPatch_r1 : List Cond := [Cond.classLink RL 25 "java/lang/IndexOutOfBoundsException", Cond.classLink RL 13 "java/lang/IllegalArgumentException", Cond.methodLink RL 76 yX2_installPatch, Cond.instanceMethod yX2_installPatch, Cond.selects RX2 yX2_installPatch yX2_installPatch, Cond.initialized RX2, Cond.code yX2_installPatch cX2_installPatch 3 (some .int), Cond.classLink RX2 45 "java/lang/IllegalArgumentException", Cond.initialized "java/lang/IllegalArgumentException", Cond.fieldLink RX2 32 "DeltaUpdater" "installed" "LDeltaUpdater$Row;", Cond.fieldLink RX2 127 "DeltaUpdater$Patch" "base" "I", Cond.fieldLink RX2 139 "DeltaUpdater$Patch" "goalRow" "LDeltaUpdater$Row;", Cond.methodLink RX2 120 yX2_patchOf, Cond.instanceMethod yX2_patchOf, Cond.selects RX2 yX2_patchOf yX2_patchOf, Cond.code yX2_patchOf cX2_patchOf 2 (some (.object "DeltaUpdater$Patch")), Cond.classLink RX2 75 "java/lang/IndexOutOfBoundsException", Cond.initialized "java/lang/IndexOutOfBoundsException", Cond.fieldLink RX2 24 "DeltaUpdater" "made" "Ljava/util/ArrayList;", Cond.classLink RX2 111 "DeltaUpdater$Patch", Cond.methodLink RX2 64 yJx4a65c_size_8abf5, Cond.instanceMethod yJx4a65c_size_8abf5, Cond.selects RJx4a65c yJx4a65c_size_8abf5 yJx4a65c_size_8abf5, Cond.initialized RJx4a65c]
def wsL_installPatch_r2 : List Cond := [Cond.code yJx4a65c_size_8abf5 cJx4a65c_size_8abf5 1 (some .int), Cond.fieldLink RJx4a65c 48 "java/util/ArrayList" "size" "I", Cond.methodLink RX2 172 yJx4a65c_get_915e3, Cond.instanceMethod yJx4a65c_get_915e3, Cond.selects RJx4a65c yJx4a65c_get_915e3 yJx4a65c_get_915e3, Cond.code yJx4a65c_get_915e3 cJx4a65c_get_915e3 2 (some (.object "java/lang/Object")), Cond.methodLink RJx4a65c 118 yJ15_checkIndex_7cf53, Cond.static yJ15_checkIndex_7cf53, Cond.initialized RJ15, Cond.code yJ15_checkIndex_7cf53 cJ15_checkIndex_7cf53 2 (some .int), Cond.methodLink RJ15 105 yJ3_checkIndex_8e157, Cond.static yJ3_checkIndex_8e157, Cond.initialized RJ3, Cond.code yJ3_checkIndex_8e157 cJ3_checkIndex_8e157 3 (some .int), Cond.methodLink RJx4a65c 123 yJx4a65c_elementData_915e3, Cond.instanceMethod yJx4a65c_elementData_915e3, Cond.selects RJx4a65c yJx4a65c_elementData_915e3 yJx4a65c_elementData_915e3, Cond.code yJx4a65c_elementData_915e3 cJx4a65c_elementData_915e3 2 (some (.object "java/lang/Object")), Cond.fieldLink RJx4a65c 9 "java/util/ArrayList" "elementData" "[Ljava/lang/Object;", Cond.methodLink RX2 68 yX2_rowOf, Cond.instanceMethod yX2_rowOf, Cond.selects RX2 yX2_rowOf yX2_rowOf, Cond.code yX2_rowOf cX2_rowOf 2 (some (.object "DeltaUpdater$Row")), Cond.fieldLink RX2 20 "DeltaUpdater" "stored" "Ljava/util/ArrayList;"]
def wsL_installPatch_r3 : List Cond := [Cond.classLink RX2 27 "DeltaUpdater$Row", Cond.methodLink RX2 80 yX1_hasBytesOf, Cond.instanceMethod yX1_hasBytesOf, Cond.selects RX1 yX1_hasBytesOf yX1_hasBytesOf, Cond.initialized RX1, Cond.code yX1_hasBytesOf cX1_hasBytesOf 2 (some .boolean), Cond.fieldLink RX1 13 "DeltaUpdater$Row" "bytes" "[I", Cond.methodLink RX1 19 yX1_hasStretch, Cond.instanceMethod yX1_hasStretch, Cond.selects RX1 yX1_hasStretch yX1_hasStretch, Cond.code yX1_hasStretch cX1_hasStretch 6 (some .boolean), Cond.methodLink RX2 164 yX2_install, Cond.instanceMethod yX2_install, Cond.selects RX2 yX2_install yX2_install, Cond.code yX2_install cX2_install 2 (some .int), Cond.fieldLink RX2 36 "DeltaUpdater" "history" "Ljava/util/ArrayList;", Cond.methodLink RX2 176 yJx4a65c_remove_915e3, Cond.instanceMethod yJx4a65c_remove_915e3, Cond.selects RJx4a65c yJx4a65c_remove_915e3 yJx4a65c_remove_915e3, Cond.code yJx4a65c_remove_915e3 cJx4a65c_remove_915e3 4 (some (.object "java/lang/Object")), Cond.methodLink RJx4a65c 144 yJx4a65c_fastRemove_b59b0, Cond.instanceMethod yJx4a65c_fastRemove_b59b0, Cond.selects RJx4a65c yJx4a65c_fastRemove_b59b0 yJx4a65c_fastRemove_b59b0, Cond.code yJx4a65c_fastRemove_b59b0 cJx4a65c_fastRemove_b59b0 4 none]
def wsL_installPatch_r4 : List Cond := [Cond.fieldLink RJx4a65c 63 "java/util/ArrayList" "modCount" "I", Cond.sameField "java/util/ArrayList" "java/util/AbstractList" "modCount" "I", Cond.methodLink RJx4a65c 112 arraycopyName, Cond.native arraycopyName, Cond.static arraycopyName, Cond.initialized "java/lang/System", Cond.methodLink RX2 60 yJx4a65c_add_9ea2d, Cond.instanceMethod yJx4a65c_add_9ea2d, Cond.selects RJx4a65c yJx4a65c_add_9ea2d yJx4a65c_add_9ea2d, Cond.code yJx4a65c_add_9ea2d cJx4a65c_add_9ea2d 2 (some .boolean), Cond.methodLink RJx4a65c 131 yJx4a65c_add_72be8, Cond.instanceMethod yJx4a65c_add_72be8, Cond.selects RJx4a65c yJx4a65c_add_72be8 yJx4a65c_add_72be8, Cond.code yJx4a65c_add_72be8 cJx4a65c_add_72be8 4 none, Cond.methodLink RJx4a65c 129 yJx4a65c_grow_d5877, Cond.instanceMethod yJx4a65c_grow_d5877, Cond.selects RJx4a65c yJx4a65c_grow_d5877 yJx4a65c_grow_d5877, Cond.code yJx4a65c_grow_d5877 cJx4a65c_grow_d5877 1 (some (.array (.object "java/lang/Object"))), Cond.methodLink RJx4a65c 69 yJx4a65c_grow_92f84, Cond.instanceMethod yJx4a65c_grow_92f84, Cond.selects RJx4a65c yJx4a65c_grow_92f84 yJx4a65c_grow_92f84, Cond.code yJx4a65c_grow_92f84 cJx4a65c_grow_92f84 4 (some (.array (.object "java/lang/Object"))), Cond.fieldLink RJx4a65c 39 "java/util/ArrayList" "DEFAULTCAPACITY_EMPTY_ELEMENTDATA" "[Ljava/lang/Object;", Cond.methodLink RJx4a65c 79 Lib.Math.max.name]
def wsL_installPatch_r5 : List Cond := [Cond.static Lib.Math.max.name, Cond.initialized "java/lang/Math", Cond.code Lib.Math.max.name Lib.Math.max.code 2 (some .int), Cond.classLink RJx4a65c 7 "java/lang/Object", Cond.methodLink RJx4a65c 73 yJ8_newLength_cabcc, Cond.static yJ8_newLength_cabcc, Cond.initialized RJ8, Cond.code yJ8_newLength_cabcc cJ8_newLength_cabcc 4 (some .int), Cond.methodLink RJ8 194 Lib.Math.max.name, Cond.constant RJ8 200 (2147483639), Cond.methodLink RJ8 201 yJ8_hugeLength_7cf53, Cond.static yJ8_hugeLength_7cf53, Cond.code yJ8_hugeLength_7cf53 cJ8_hugeLength_7cf53 3 (some .int), Cond.methodLink RJx4a65c 66 yJ7_copyOf_1904c, Cond.static yJ7_copyOf_1904c, Cond.initialized RJ7, Cond.code yJ7_copyOf_1904c cJ7_copyOf_1904c 2 (some (.array (.object "java/lang/Object"))), Cond.methodLink RJ7 86 ⟨"java/lang/Object", "getClass", "()Ljava/lang/Class;"⟩, Cond.selects "[Ljava/lang/Object;" ⟨"java/lang/Object", "getClass", "()Ljava/lang/Class;"⟩ ⟨"java/lang/Object", "getClass", "()Ljava/lang/Class;"⟩, Cond.instanceMethod ⟨"java/lang/Object", "getClass", "()Ljava/lang/Class;"⟩, Cond.native ⟨"java/lang/Object", "getClass", "()Ljava/lang/Class;"⟩, Cond.methodLink RJ7 300 yJ7_copyOf_6403c, Cond.static yJ7_copyOf_6403c, Cond.code yJ7_copyOf_6403c cJ7_copyOf_6403c 4 (some (.array (.object "java/lang/Object")))]
def wsL_installPatch_r6 : List Cond := [Cond.classLink RJ7 110 "[Ljava/lang/Object;", Cond.classLink RJ7 2 "java/lang/Object", Cond.methodLink RJ7 304 Lib.Math.min.name, Cond.static Lib.Math.min.name, Cond.code Lib.Math.min.name Lib.Math.min.code 2 (some .int), Cond.methodLink RJ7 150 arraycopyName]
def wsL_installPatch : List Cond := .codeWith yL_installPatch cL_installPatch 4 (some .int) [(0, 9, 12, 25), (0, 9, 15, 13)] :: ((wsL_installPatch_r1 ++ (wsL_installPatch_r2 ++ (wsL_installPatch_r3 ++ (wsL_installPatch_r4 ++ (wsL_installPatch_r5 ++ wsL_installPatch_r6))))) ++ wsX20 ++ wsX00 ++ wsJx4a65c0 ++ wsX10 ++ (vx_atS RX2 49 "java/lang/IllegalArgumentException" ["java/lang/RuntimeException", "java/lang/Exception"]).filter goodWord ++ (vx_atS RX2 79 "java/lang/IndexOutOfBoundsException" ["java/lang/RuntimeException", "java/lang/Exception"]).filter goodWord)
def wsL_rollBack_r1 : List Cond := [Cond.classLink RL 15 "java/lang/IllegalStateException", Cond.methodLink RL 79 yX2_rollBack, Cond.instanceMethod yX2_rollBack, Cond.selects RX2 yX2_rollBack yX2_rollBack, Cond.initialized RX2, Cond.code yX2_rollBack cX2_rollBack 2 (some .int), Cond.classLink RX2 52 "java/lang/IllegalStateException", Cond.initialized "java/lang/IllegalStateException", Cond.fieldLink RX2 36 "DeltaUpdater" "history" "Ljava/util/ArrayList;", Cond.classLink RX2 27 "DeltaUpdater$Row", Cond.fieldLink RX2 32 "DeltaUpdater" "installed" "LDeltaUpdater$Row;", Cond.methodLink RX2 64 yJx4a65c_size_8abf5, Cond.instanceMethod yJx4a65c_size_8abf5, Cond.selects RJx4a65c yJx4a65c_size_8abf5 yJx4a65c_size_8abf5, Cond.initialized RJx4a65c, Cond.code yJx4a65c_size_8abf5 cJx4a65c_size_8abf5 1 (some .int), Cond.fieldLink RJx4a65c 48 "java/util/ArrayList" "size" "I", Cond.methodLink RX2 172 yJx4a65c_get_915e3, Cond.instanceMethod yJx4a65c_get_915e3, Cond.selects RJx4a65c yJx4a65c_get_915e3 yJx4a65c_get_915e3, Cond.code yJx4a65c_get_915e3 cJx4a65c_get_915e3 2 (some (.object "java/lang/Object")), Cond.methodLink RJx4a65c 118 yJ15_checkIndex_7cf53, Cond.static yJ15_checkIndex_7cf53, Cond.initialized RJ15]
def wsL_rollBack_r2 : List Cond := [Cond.code yJ15_checkIndex_7cf53 cJ15_checkIndex_7cf53 2 (some .int), Cond.methodLink RJ15 105 yJ3_checkIndex_8e157, Cond.static yJ3_checkIndex_8e157, Cond.initialized RJ3, Cond.code yJ3_checkIndex_8e157 cJ3_checkIndex_8e157 3 (some .int), Cond.methodLink RJx4a65c 123 yJx4a65c_elementData_915e3, Cond.instanceMethod yJx4a65c_elementData_915e3, Cond.selects RJx4a65c yJx4a65c_elementData_915e3 yJx4a65c_elementData_915e3, Cond.code yJx4a65c_elementData_915e3 cJx4a65c_elementData_915e3 2 (some (.object "java/lang/Object")), Cond.fieldLink RJx4a65c 9 "java/util/ArrayList" "elementData" "[Ljava/lang/Object;", Cond.methodLink RX2 176 yJx4a65c_remove_915e3, Cond.instanceMethod yJx4a65c_remove_915e3, Cond.selects RJx4a65c yJx4a65c_remove_915e3 yJx4a65c_remove_915e3, Cond.code yJx4a65c_remove_915e3 cJx4a65c_remove_915e3 4 (some (.object "java/lang/Object")), Cond.methodLink RJx4a65c 144 yJx4a65c_fastRemove_b59b0, Cond.instanceMethod yJx4a65c_fastRemove_b59b0, Cond.selects RJx4a65c yJx4a65c_fastRemove_b59b0 yJx4a65c_fastRemove_b59b0, Cond.code yJx4a65c_fastRemove_b59b0 cJx4a65c_fastRemove_b59b0 4 none, Cond.fieldLink RJx4a65c 63 "java/util/ArrayList" "modCount" "I", Cond.sameField "java/util/ArrayList" "java/util/AbstractList" "modCount" "I", Cond.methodLink RJx4a65c 112 arraycopyName, Cond.native arraycopyName, Cond.static arraycopyName, Cond.initialized "java/lang/System"]
def wsL_rollBack : List Cond := .codeWith yL_rollBack cL_rollBack 3 (some .int) [(0, 8, 11, 15)] :: ((wsL_rollBack_r1 ++ wsL_rollBack_r2) ++ wsX20 ++ wsJx4a65c0 ++ (vx_atS RX2 56 "java/lang/IllegalStateException" ["java/lang/RuntimeException", "java/lang/Exception"]).filter goodWord)
def wsL_isInstalled_r1 : List Cond := [Cond.classLink RL 25 "java/lang/IndexOutOfBoundsException", Cond.methodLink RL 82 yX2_isInstalled, Cond.instanceMethod yX2_isInstalled, Cond.selects RX2 yX2_isInstalled yX2_isInstalled, Cond.initialized RX2, Cond.code yX2_isInstalled cX2_isInstalled 2 (some .boolean), Cond.fieldLink RX2 32 "DeltaUpdater" "installed" "LDeltaUpdater$Row;", Cond.methodLink RX2 68 yX2_rowOf, Cond.instanceMethod yX2_rowOf, Cond.selects RX2 yX2_rowOf yX2_rowOf, Cond.code yX2_rowOf cX2_rowOf 2 (some (.object "DeltaUpdater$Row")), Cond.classLink RX2 75 "java/lang/IndexOutOfBoundsException", Cond.initialized "java/lang/IndexOutOfBoundsException", Cond.fieldLink RX2 20 "DeltaUpdater" "stored" "Ljava/util/ArrayList;", Cond.classLink RX2 27 "DeltaUpdater$Row", Cond.methodLink RX2 64 yJx4a65c_size_8abf5, Cond.instanceMethod yJx4a65c_size_8abf5, Cond.selects RJx4a65c yJx4a65c_size_8abf5 yJx4a65c_size_8abf5, Cond.initialized RJx4a65c, Cond.code yJx4a65c_size_8abf5 cJx4a65c_size_8abf5 1 (some .int), Cond.fieldLink RJx4a65c 48 "java/util/ArrayList" "size" "I", Cond.methodLink RX2 172 yJx4a65c_get_915e3, Cond.instanceMethod yJx4a65c_get_915e3, Cond.selects RJx4a65c yJx4a65c_get_915e3 yJx4a65c_get_915e3]
def wsL_isInstalled_r2 : List Cond := [Cond.code yJx4a65c_get_915e3 cJx4a65c_get_915e3 2 (some (.object "java/lang/Object")), Cond.methodLink RJx4a65c 118 yJ15_checkIndex_7cf53, Cond.static yJ15_checkIndex_7cf53, Cond.initialized RJ15, Cond.code yJ15_checkIndex_7cf53 cJ15_checkIndex_7cf53 2 (some .int), Cond.methodLink RJ15 105 yJ3_checkIndex_8e157, Cond.static yJ3_checkIndex_8e157, Cond.initialized RJ3, Cond.code yJ3_checkIndex_8e157 cJ3_checkIndex_8e157 3 (some .int), Cond.methodLink RJx4a65c 123 yJx4a65c_elementData_915e3, Cond.instanceMethod yJx4a65c_elementData_915e3, Cond.selects RJx4a65c yJx4a65c_elementData_915e3 yJx4a65c_elementData_915e3, Cond.code yJx4a65c_elementData_915e3 cJx4a65c_elementData_915e3 2 (some (.object "java/lang/Object")), Cond.fieldLink RJx4a65c 9 "java/util/ArrayList" "elementData" "[Ljava/lang/Object;", Cond.methodLink RX2 80 yX1_hasBytesOf, Cond.instanceMethod yX1_hasBytesOf, Cond.selects RX1 yX1_hasBytesOf yX1_hasBytesOf, Cond.initialized RX1, Cond.code yX1_hasBytesOf cX1_hasBytesOf 2 (some .boolean), Cond.fieldLink RX1 13 "DeltaUpdater$Row" "bytes" "[I", Cond.methodLink RX1 19 yX1_hasStretch, Cond.instanceMethod yX1_hasStretch, Cond.selects RX1 yX1_hasStretch yX1_hasStretch, Cond.code yX1_hasStretch cX1_hasStretch 6 (some .boolean)]
def wsL_isInstalled : List Cond := .codeWith yL_isInstalled cL_isInstalled 4 (some .int) [(0, 16, 19, 25)] :: ((wsL_isInstalled_r1 ++ wsL_isInstalled_r2) ++ wsX20 ++ wsJx4a65c0 ++ wsX10 ++ (vx_atS RX2 79 "java/lang/IndexOutOfBoundsException" ["java/lang/RuntimeException", "java/lang/Exception"]).filter goodWord)
def wsL_law0_r1 : List Cond := [Cond.classLink RL 8 RX2, Cond.instantiable RX2 8, Cond.initialized RX2, Cond.classLink RL 87 RX3, Cond.instantiable RX3 12, Cond.initialized RX3, Cond.arrayClass .long, Cond.arrayClass .double, Cond.constantLong RL 90 (4294967295), Cond.methodLink RL 86 yX2_init, Cond.instanceMethod yX2_init, Cond.code yX2_init cX2_init 1 none, Cond.methodLink RX2 1 objectInit, Cond.instanceMethod objectInit, Cond.code objectInit ⟨#[0xb1]⟩ 1 none, Cond.arrayClass .int, Cond.fieldLink RX2 9 "DeltaUpdater" "buffer" "[I", Cond.fieldLink RX2 13 "DeltaUpdater" "buffered" "I", Cond.classLink RX2 17 RJx4a65c, Cond.instantiable RJx4a65c 3, Cond.initialized RJx4a65c, Cond.fieldLink RX2 20 "DeltaUpdater" "stored" "Ljava/util/ArrayList;", Cond.fieldLink RX2 24 "DeltaUpdater" "made" "Ljava/util/ArrayList;", Cond.classLink RX2 27 RX1]
def wsL_law0_r2 : List Cond := [Cond.instantiable RX1 1, Cond.initialized RX1, Cond.fieldLink RX2 32 "DeltaUpdater" "installed" "LDeltaUpdater$Row;", Cond.fieldLink RX2 36 "DeltaUpdater" "history" "Ljava/util/ArrayList;", Cond.fieldLink RX2 39 "DeltaUpdater" "blockSums" "[I", Cond.fieldLink RX2 42 "DeltaUpdater" "reached" "[I", Cond.methodLink RX2 19 yJx4a65c_init_da8c8, Cond.instanceMethod yJx4a65c_init_da8c8, Cond.code yJx4a65c_init_da8c8 cJx4a65c_init_da8c8 1 none, Cond.fieldLink RJx4a65c 39 "java/util/ArrayList" "DEFAULTCAPACITY_EMPTY_ELEMENTDATA" "[Ljava/lang/Object;", Cond.fieldLink RJx4a65c 9 "java/util/ArrayList" "elementData" "[Ljava/lang/Object;", Cond.methodLink RJx4a65c 1 yJxc12de_init_da8c8, Cond.instanceMethod yJxc12de_init_da8c8, Cond.initialized RJxc12de, Cond.code yJxc12de_init_da8c8 cJxc12de_init_da8c8 1 none, Cond.fieldLink RJxc12de 7 "java/util/AbstractList" "modCount" "I", Cond.methodLink RJxc12de 1 yJxa1e45_init_da8c8, Cond.instanceMethod yJxa1e45_init_da8c8, Cond.initialized RJxa1e45, Cond.code yJxa1e45_init_da8c8 cJxa1e45_init_da8c8 1 none, Cond.methodLink RJxa1e45 1 objectInit, Cond.methodLink RX2 29 yX1_init, Cond.instanceMethod yX1_init, Cond.code yX1_init cX1_init 3 none]
def wsL_law0_r3 : List Cond := [Cond.methodLink RX1 1 objectInit, Cond.fieldLink RX1 13 "DeltaUpdater$Row" "bytes" "[I", Cond.methodLink RX1 7 yJ7_copyOf_59c91, Cond.static yJ7_copyOf_59c91, Cond.initialized RJ7, Cond.code yJ7_copyOf_59c91 cJ7_copyOf_59c91 3 (some (.array .int)), Cond.methodLink RJ7 316 ⟨"[I", "clone", "()Ljava/lang/Object;"⟩, Cond.sameMethod "[I" "java/lang/Object" "clone" "()Ljava/lang/Object;", Cond.native ⟨"java/lang/Object", "clone", "()Ljava/lang/Object;"⟩, Cond.instanceMethod ⟨"java/lang/Object", "clone", "()Ljava/lang/Object;"⟩, Cond.selects "[I" ⟨"[I", "clone", "()Ljava/lang/Object;"⟩ ⟨"java/lang/Object", "clone", "()Ljava/lang/Object;"⟩, Cond.classLink RJ7 317 "[I", Cond.methodLink RJ7 304 Lib.Math.min.name, Cond.static Lib.Math.min.name, Cond.initialized "java/lang/Math", Cond.code Lib.Math.min.name Lib.Math.min.code 2 (some .int), Cond.methodLink RJ7 150 arraycopyName, Cond.native arraycopyName, Cond.static arraycopyName, Cond.initialized "java/lang/System", Cond.methodLink RL 89 yX3_init, Cond.instanceMethod yX3_init, Cond.code yX3_init cX3_init 1 none, Cond.methodLink RX3 1 objectInit]
def wsL_law0_r4 : List Cond := [Cond.fieldLink RX3 9 "DeltaUpdaterModel" "buffer" "[I", Cond.classLink RX3 13 "[I", Cond.fieldLink RX3 14 "DeltaUpdaterModel" "rows" "[[I", Cond.fieldLink RX3 18 "DeltaUpdaterModel" "bases" "[[I", Cond.fieldLink RX3 21 "DeltaUpdaterModel" "goals" "[[I", Cond.fieldLink RX3 24 "DeltaUpdaterModel" "origins" "[[I", Cond.fieldLink RX3 27 "DeltaUpdaterModel" "installed" "[I", Cond.fieldLink RX3 30 "DeltaUpdaterModel" "history" "[[I", Cond.methodLink RL 92 yL_feed, Cond.static yL_feed, Cond.initialized RL, Cond.codeWith yL_feed cL_feed 6 (some .int) [(0, 11, 14, 13), (0, 11, 18, 15)], Cond.classLink RL 13 "java/lang/IllegalArgumentException", Cond.classLink RL 15 "java/lang/IllegalStateException", Cond.methodLink RL 7 yX2_feed, Cond.instanceMethod yX2_feed, Cond.selects RX2 yX2_feed yX2_feed, Cond.code yX2_feed cX2_feed 5 (some .int), Cond.classLink RX2 45 "java/lang/IllegalArgumentException", Cond.initialized "java/lang/IllegalArgumentException", Cond.classLink RX2 52 "java/lang/IllegalStateException", Cond.initialized "java/lang/IllegalStateException", Cond.methodLink RL 97 yX3_feed, Cond.instanceMethod yX3_feed]
def wsL_law0_r5 : List Cond := [Cond.selects RX3 yX3_feed yX3_feed, Cond.code yX3_feed cX3_feed 5 (some .int), Cond.fieldLink RX3 33 "DeltaUpdaterModel" "thrown" "I", Cond.fieldLink RX3 51 "DeltaUpdaterModel" "buffered" "I", Cond.constantLong RX3 54 (255), Cond.methodLink RX3 40 yX3_isIn, Cond.static yX3_isIn, Cond.code yX3_isIn cX3_isIn 3 (some .boolean), Cond.methodLink RX3 47 yX3_fail, Cond.instanceMethod yX3_fail, Cond.selects RX3 yX3_fail yX3_fail, Cond.code yX3_fail cX3_fail 2 (some .int), Cond.methodLink RL 98 yX3_thrown, Cond.instanceMethod yX3_thrown, Cond.selects RX3 yX3_thrown yX3_thrown, Cond.code yX3_thrown cX3_thrown 1 (some .int), Cond.methodLink RL 101 yL_store, Cond.static yL_store, Cond.codeWith yL_store cL_store 3 (some .int) [(0, 8, 11, 15)], Cond.methodLink RL 17 yX2_store, Cond.instanceMethod yX2_store, Cond.selects RX2 yX2_store yX2_store, Cond.code yX2_store cX2_store 1 (some .int), Cond.methodLink RX2 57 yX2_checkRoomForVersion]
def wsL_law0_r6 : List Cond := [Cond.instanceMethod yX2_checkRoomForVersion, Cond.selects RX2 yX2_checkRoomForVersion yX2_checkRoomForVersion, Cond.code yX2_checkRoomForVersion cX2_checkRoomForVersion 1 none, Cond.methodLink RX2 64 yJx4a65c_size_8abf5, Cond.instanceMethod yJx4a65c_size_8abf5, Cond.selects RJx4a65c yJx4a65c_size_8abf5 yJx4a65c_size_8abf5, Cond.code yJx4a65c_size_8abf5 cJx4a65c_size_8abf5 1 (some .int), Cond.fieldLink RJx4a65c 48 "java/util/ArrayList" "size" "I", Cond.methodLink RX2 60 yJx4a65c_add_9ea2d, Cond.instanceMethod yJx4a65c_add_9ea2d, Cond.selects RJx4a65c yJx4a65c_add_9ea2d yJx4a65c_add_9ea2d, Cond.code yJx4a65c_add_9ea2d cJx4a65c_add_9ea2d 2 (some .boolean), Cond.fieldLink RJx4a65c 63 "java/util/ArrayList" "modCount" "I", Cond.sameField "java/util/ArrayList" "java/util/AbstractList" "modCount" "I", Cond.methodLink RJx4a65c 131 yJx4a65c_add_72be8, Cond.instanceMethod yJx4a65c_add_72be8, Cond.selects RJx4a65c yJx4a65c_add_72be8 yJx4a65c_add_72be8, Cond.code yJx4a65c_add_72be8 cJx4a65c_add_72be8 4 none, Cond.methodLink RJx4a65c 129 yJx4a65c_grow_d5877, Cond.instanceMethod yJx4a65c_grow_d5877, Cond.selects RJx4a65c yJx4a65c_grow_d5877 yJx4a65c_grow_d5877, Cond.code yJx4a65c_grow_d5877 cJx4a65c_grow_d5877 1 (some (.array (.object "java/lang/Object"))), Cond.methodLink RJx4a65c 69 yJx4a65c_grow_92f84, Cond.instanceMethod yJx4a65c_grow_92f84]
def wsL_law0_r7 : List Cond := [Cond.selects RJx4a65c yJx4a65c_grow_92f84 yJx4a65c_grow_92f84, Cond.code yJx4a65c_grow_92f84 cJx4a65c_grow_92f84 4 (some (.array (.object "java/lang/Object"))), Cond.methodLink RJx4a65c 79 Lib.Math.max.name, Cond.static Lib.Math.max.name, Cond.code Lib.Math.max.name Lib.Math.max.code 2 (some .int), Cond.classLink RJx4a65c 7 "java/lang/Object", Cond.methodLink RJx4a65c 73 yJ8_newLength_cabcc, Cond.static yJ8_newLength_cabcc, Cond.initialized RJ8, Cond.code yJ8_newLength_cabcc cJ8_newLength_cabcc 4 (some .int), Cond.methodLink RJ8 194 Lib.Math.max.name, Cond.constant RJ8 200 (2147483639), Cond.methodLink RJ8 201 yJ8_hugeLength_7cf53, Cond.static yJ8_hugeLength_7cf53, Cond.code yJ8_hugeLength_7cf53 cJ8_hugeLength_7cf53 3 (some .int), Cond.methodLink RJx4a65c 66 yJ7_copyOf_1904c, Cond.static yJ7_copyOf_1904c, Cond.code yJ7_copyOf_1904c cJ7_copyOf_1904c 2 (some (.array (.object "java/lang/Object"))), Cond.methodLink RJ7 86 ⟨"java/lang/Object", "getClass", "()Ljava/lang/Class;"⟩, Cond.selects "[Ljava/lang/Object;" ⟨"java/lang/Object", "getClass", "()Ljava/lang/Class;"⟩ ⟨"java/lang/Object", "getClass", "()Ljava/lang/Class;"⟩, Cond.instanceMethod ⟨"java/lang/Object", "getClass", "()Ljava/lang/Class;"⟩, Cond.native ⟨"java/lang/Object", "getClass", "()Ljava/lang/Class;"⟩, Cond.methodLink RJ7 300 yJ7_copyOf_6403c, Cond.static yJ7_copyOf_6403c]
def wsL_law0_r8 : List Cond := [Cond.code yJ7_copyOf_6403c cJ7_copyOf_6403c 4 (some (.array (.object "java/lang/Object"))), Cond.classLink RJ7 110 "[Ljava/lang/Object;", Cond.classLink RJ7 2 "java/lang/Object", Cond.methodLink RL 104 yX3_store, Cond.instanceMethod yX3_store, Cond.selects RX3 yX3_store yX3_store, Cond.code yX3_store cX3_store 2 (some .int), Cond.fieldLink RX3 37 "DeltaUpdaterModel" "versions" "I", Cond.methodLink RX3 56 arraycopyName, Cond.methodLink RX3 62 yX3_keep, Cond.instanceMethod yX3_keep, Cond.selects RX3 yX3_keep yX3_keep, Cond.code yX3_keep cX3_keep 2 (some .int), Cond.methodLink RL 105 yX2_versions, Cond.instanceMethod yX2_versions, Cond.selects RX2 yX2_versions yX2_versions, Cond.code yX2_versions cX2_versions 1 (some .int), Cond.methodLink RL 108 yX3_versions, Cond.instanceMethod yX3_versions, Cond.selects RX3 yX3_versions yX3_versions, Cond.code yX3_versions cX3_versions 1 (some .int), Cond.methodLink RL 109 yL_length, Cond.static yL_length, Cond.codeWith yL_length cL_length 4 (some .int) [(0, 9, 12, 25)]]
def wsL_law0_r9 : List Cond := [Cond.classLink RL 25 "java/lang/IndexOutOfBoundsException", Cond.methodLink RL 21 yX2_length, Cond.instanceMethod yX2_length, Cond.selects RX2 yX2_length yX2_length, Cond.code yX2_length cX2_length 2 (some .int), Cond.fieldLink RX2 72 "DeltaUpdater$Row" "bytes" "[I", Cond.methodLink RX2 68 yX2_rowOf, Cond.instanceMethod yX2_rowOf, Cond.selects RX2 yX2_rowOf yX2_rowOf, Cond.code yX2_rowOf cX2_rowOf 2 (some (.object "DeltaUpdater$Row")), Cond.classLink RX2 75 "java/lang/IndexOutOfBoundsException", Cond.initialized "java/lang/IndexOutOfBoundsException", Cond.classLink RX2 27 "DeltaUpdater$Row", Cond.methodLink RX2 172 yJx4a65c_get_915e3, Cond.instanceMethod yJx4a65c_get_915e3, Cond.selects RJx4a65c yJx4a65c_get_915e3 yJx4a65c_get_915e3, Cond.code yJx4a65c_get_915e3 cJx4a65c_get_915e3 2 (some (.object "java/lang/Object")), Cond.methodLink RJx4a65c 118 yJ15_checkIndex_7cf53, Cond.static yJ15_checkIndex_7cf53, Cond.initialized RJ15, Cond.code yJ15_checkIndex_7cf53 cJ15_checkIndex_7cf53 2 (some .int), Cond.methodLink RJ15 105 yJ3_checkIndex_8e157, Cond.static yJ3_checkIndex_8e157, Cond.initialized RJ3]
def wsL_law0_r10 : List Cond := [Cond.code yJ3_checkIndex_8e157 cJ3_checkIndex_8e157 3 (some .int), Cond.methodLink RJx4a65c 123 yJx4a65c_elementData_915e3, Cond.instanceMethod yJx4a65c_elementData_915e3, Cond.selects RJx4a65c yJx4a65c_elementData_915e3 yJx4a65c_elementData_915e3, Cond.code yJx4a65c_elementData_915e3 cJx4a65c_elementData_915e3 2 (some (.object "java/lang/Object")), Cond.methodLink RL 112 yX3_length, Cond.instanceMethod yX3_length, Cond.selects RX3 yX3_length yX3_length, Cond.code yX3_length cX3_length 2 (some .int), Cond.methodLink RX3 66 yX3_isVersion, Cond.instanceMethod yX3_isVersion, Cond.selects RX3 yX3_isVersion yX3_isVersion, Cond.code yX3_isVersion cX3_isVersion 2 (some .boolean), Cond.methodLink RL 113 yL_byteAt, Cond.static yL_byteAt, Cond.codeWith yL_byteAt cL_byteAt 5 (some .int) [(0, 10, 13, 25)], Cond.methodLink RL 27 yX2_byteAt, Cond.instanceMethod yX2_byteAt, Cond.selects RX2 yX2_byteAt yX2_byteAt, Cond.code yX2_byteAt cX2_byteAt 4 (some .int), Cond.methodLink RL 116 yX3_byteAt, Cond.instanceMethod yX3_byteAt, Cond.selects RX3 yX3_byteAt yX3_byteAt, Cond.code yX3_byteAt cX3_byteAt 3 (some .int)]
def wsL_law0_r11 : List Cond := [Cond.methodLink RL 117 yL_areSame, Cond.static yL_areSame, Cond.codeWith yL_areSame cL_areSame 5 (some .int) [(0, 17, 20, 25)], Cond.methodLink RL 31 yX2_areSame, Cond.instanceMethod yX2_areSame, Cond.selects RX2 yX2_areSame yX2_areSame, Cond.code yX2_areSame cX2_areSame 3 (some .boolean), Cond.methodLink RX2 80 yX1_hasBytesOf, Cond.instanceMethod yX1_hasBytesOf, Cond.selects RX1 yX1_hasBytesOf yX1_hasBytesOf, Cond.code yX1_hasBytesOf cX1_hasBytesOf 2 (some .boolean), Cond.methodLink RX1 19 yX1_hasStretch, Cond.instanceMethod yX1_hasStretch, Cond.selects RX1 yX1_hasStretch yX1_hasStretch, Cond.code yX1_hasStretch cX1_hasStretch 6 (some .boolean), Cond.methodLink RL 119 yX3_areSame, Cond.instanceMethod yX3_areSame, Cond.selects RX3 yX3_areSame yX3_areSame, Cond.code yX3_areSame cX3_areSame 3 (some .boolean), Cond.methodLink RX3 70 yX3_are, Cond.static yX3_are, Cond.code yX3_are cX3_are 4 (some .boolean), Cond.methodLink RL 120 yL_weakSum, Cond.static yL_weakSum]
def wsL_law0_r12 : List Cond := [Cond.codeWith yL_weakSum cL_weakSum 6 (some .int) [(0, 12, 15, 25), (0, 12, 19, 13)], Cond.methodLink RL 35 yX2_weakSum, Cond.instanceMethod yX2_weakSum, Cond.selects RX2 yX2_weakSum yX2_weakSum, Cond.code yX2_weakSum cX2_weakSum 5 (some .int), Cond.methodLink RX2 88 yX1_sumOf, Cond.instanceMethod yX1_sumOf, Cond.selects RX1 yX1_sumOf yX1_sumOf, Cond.code yX1_sumOf cX1_sumOf 6 (some .int), Cond.methodLink RL 123 yX3_weakSum, Cond.instanceMethod yX3_weakSum, Cond.selects RX3 yX3_weakSum yX3_weakSum, Cond.code yX3_weakSum cX3_weakSum 4 (some .int), Cond.methodLink RX3 74 yX3_sumOf, Cond.static yX3_sumOf, Cond.code yX3_sumOf cX3_sumOf 6 (some .int), Cond.methodLink RL 124 yL_collisions, Cond.static yL_collisions, Cond.codeWith yL_collisions cL_collisions 5 (some .int) [(0, 10, 13, 25), (0, 10, 17, 13)], Cond.methodLink RL 39 yX2_collisions, Cond.instanceMethod yX2_collisions, Cond.selects RX2 yX2_collisions yX2_collisions, Cond.code yX2_collisions cX2_collisions 8 (some .int), Cond.methodLink RX2 92 yX2_checkSize]
def wsL_law0_r13 : List Cond := [Cond.static yX2_checkSize, Cond.code yX2_checkSize cX2_checkSize 1 none, Cond.methodLink RX2 96 yX1_hasStretch, Cond.methodLink RL 126 yX3_collisions, Cond.instanceMethod yX3_collisions, Cond.selects RX3 yX3_collisions yX3_collisions, Cond.code yX3_collisions cX3_collisions 9 (some .int), Cond.methodLink RX3 78 yX3_isSize, Cond.static yX3_isSize, Cond.code yX3_isSize cX3_isSize 1 (some .boolean), Cond.methodLink RX3 81 yX3_isLike, Cond.static yX3_isLike, Cond.code yX3_isLike cX3_isLike 7 (some .boolean), Cond.methodLink RL 127 yL_differentBlocks, Cond.static yL_differentBlocks, Cond.codeWith yL_differentBlocks cL_differentBlocks 5 (some .int) [(0, 10, 13, 25), (0, 10, 17, 13)], Cond.methodLink RL 42 yX2_differentBlocks, Cond.instanceMethod yX2_differentBlocks, Cond.selects RX2 yX2_differentBlocks yX2_differentBlocks, Cond.code yX2_differentBlocks cX2_differentBlocks 7 (some .int), Cond.methodLink RX2 100 yX2_firstBlock, Cond.static yX2_firstBlock, Cond.code yX2_firstBlock cX2_firstBlock 6 (some .int), Cond.methodLink RL 129 yX3_differentBlocks]
def wsL_law0_r14 : List Cond := [Cond.instanceMethod yX3_differentBlocks, Cond.selects RX3 yX3_differentBlocks yX3_differentBlocks, Cond.code yX3_differentBlocks cX3_differentBlocks 6 (some .int), Cond.methodLink RX3 85 yX3_blockLike, Cond.static yX3_blockLike, Cond.code yX3_blockLike cX3_blockLike 6 (some .int), Cond.methodLink RL 130 yL_difference, Cond.static yL_difference, Cond.codeWith yL_difference cL_difference 6 (some .int) [(0, 12, 15, 25), (0, 12, 19, 13), (0, 12, 23, 15)], Cond.methodLink RL 45 yX2_difference, Cond.instanceMethod yX2_difference, Cond.selects RX2 yX2_difference yX2_difference, Cond.code yX2_difference cX2_difference 7 (some .int), Cond.classLink RX2 111 RX0, Cond.instantiable RX0 7, Cond.initialized RX0, Cond.methodLink RX2 104 yX2_checkRoomForPatch, Cond.instanceMethod yX2_checkRoomForPatch, Cond.selects RX2 yX2_checkRoomForPatch yX2_checkRoomForPatch, Cond.code yX2_checkRoomForPatch cX2_checkRoomForPatch 1 none, Cond.methodLink RX2 107 yX2_originsByBlocks, Cond.static yX2_originsByBlocks, Cond.code yX2_originsByBlocks cX2_originsByBlocks 8 (some (.array .int)), Cond.methodLink RX2 201 yX2_blockToCopy]
def wsL_law0_r15 : List Cond := [Cond.static yX2_blockToCopy, Cond.code yX2_blockToCopy cX2_blockToCopy 6 (some .int), Cond.methodLink RX2 113 yX2_firstLike, Cond.instanceMethod yX2_firstLike, Cond.selects RX2 yX2_firstLike yX2_firstLike, Cond.code yX2_firstLike cX2_firstLike 4 (some .int), Cond.methodLink RX2 117 yX0_init, Cond.instanceMethod yX0_init, Cond.code yX0_init cX0_init 5 none, Cond.methodLink RX0 3 objectInit, Cond.fieldLink RX0 9 "DeltaUpdater$Patch" "base" "I", Cond.fieldLink RX0 15 "DeltaUpdater$Patch" "goal" "I", Cond.fieldLink RX0 18 "DeltaUpdater$Patch" "goalRow" "LDeltaUpdater$Row;", Cond.fieldLink RX0 22 "DeltaUpdater$Patch" "origins" "[I", Cond.fieldLink RX0 30 "DeltaUpdater$Patch" "starts" "[I", Cond.fieldLink RX0 37 "DeltaUpdater$Patch" "literalBytes" "I", Cond.fieldLink RX0 44 "DeltaUpdater$Patch" "price" "I", Cond.methodLink RX0 26 yX0_startsIn, Cond.static yX0_startsIn, Cond.code yX0_startsIn cX0_startsIn 4 (some (.array .int)), Cond.methodLink RX0 47 yX0_startsAt, Cond.static yX0_startsAt, Cond.code yX0_startsAt cX0_startsAt 3 (some .boolean), Cond.methodLink RX0 51 yJ7_copyOf_59c91]
def wsL_law0_r16 : List Cond := [Cond.methodLink RX0 33 yX0_literalsIn, Cond.static yX0_literalsIn, Cond.code yX0_literalsIn cX0_literalsIn 3 (some .int), Cond.methodLink RX0 40 yX0_priceOf, Cond.static yX0_priceOf, Cond.code yX0_priceOf cX0_priceOf 5 (some .int), Cond.methodLink RL 132 yX3_difference, Cond.instanceMethod yX3_difference, Cond.selects RX3 yX3_difference yX3_difference, Cond.code yX3_difference cX3_difference 11 (some .int), Cond.fieldLink RX3 44 "DeltaUpdaterModel" "patches" "I", Cond.methodLink RX3 89 yX3_add, Cond.instanceMethod yX3_add, Cond.selects RX3 yX3_add yX3_add, Cond.code yX3_add cX3_add 4 (some .int), Cond.methodLink RL 133 yL_compose, Cond.static yL_compose, Cond.codeWith yL_compose cL_compose 5 (some .int) [(0, 10, 13, 25), (0, 10, 17, 13), (0, 10, 21, 15)], Cond.methodLink RL 48 yX2_compose, Cond.instanceMethod yX2_compose, Cond.selects RX2 yX2_compose yX2_compose, Cond.code yX2_compose cX2_compose 6 (some .int), Cond.fieldLink RX2 124 "DeltaUpdater$Patch" "goal" "I", Cond.fieldLink RX2 127 "DeltaUpdater$Patch" "base" "I"]
def wsL_law0_r17 : List Cond := [Cond.fieldLink RX2 132 "DeltaUpdater$Patch" "origins" "[I", Cond.fieldLink RX2 139 "DeltaUpdater$Patch" "goalRow" "LDeltaUpdater$Row;", Cond.methodLink RX2 120 yX2_patchOf, Cond.instanceMethod yX2_patchOf, Cond.selects RX2 yX2_patchOf yX2_patchOf, Cond.code yX2_patchOf cX2_patchOf 2 (some (.object "DeltaUpdater$Patch")), Cond.classLink RX2 111 "DeltaUpdater$Patch", Cond.methodLink RX2 135 yX2_originsThrough, Cond.static yX2_originsThrough, Cond.code yX2_originsThrough cX2_originsThrough 5 (some (.array .int)), Cond.methodLink RL 135 yX3_compose, Cond.instanceMethod yX3_compose, Cond.selects RX3 yX3_compose yX3_compose, Cond.code yX3_compose cX3_compose 5 (some .int), Cond.methodLink RX3 93 yX3_isPatch, Cond.instanceMethod yX3_isPatch, Cond.selects RX3 yX3_isPatch yX3_isPatch, Cond.code yX3_isPatch cX3_isPatch 2 (some .boolean), Cond.methodLink RL 136 yX2_patches, Cond.instanceMethod yX2_patches, Cond.selects RX2 yX2_patches yX2_patches, Cond.code yX2_patches cX2_patches 1 (some .int), Cond.methodLink RL 139 yX3_patches, Cond.instanceMethod yX3_patches]
def wsL_law0_r18 : List Cond := [Cond.selects RX3 yX3_patches yX3_patches, Cond.code yX3_patches cX3_patches 1 (some .int), Cond.methodLink RL 140 yL_instructions, Cond.static yL_instructions, Cond.codeWith yL_instructions cL_instructions 4 (some .int) [(0, 9, 12, 25)], Cond.methodLink RL 51 yX2_instructions, Cond.instanceMethod yX2_instructions, Cond.selects RX2 yX2_instructions yX2_instructions, Cond.code yX2_instructions cX2_instructions 2 (some .int), Cond.fieldLink RX2 142 "DeltaUpdater$Patch" "starts" "[I", Cond.methodLink RL 142 yX3_instructions, Cond.instanceMethod yX3_instructions, Cond.selects RX3 yX3_instructions yX3_instructions, Cond.code yX3_instructions cX3_instructions 2 (some .int), Cond.methodLink RX3 100 yX3_many, Cond.instanceMethod yX3_many, Cond.selects RX3 yX3_many yX3_many, Cond.code yX3_many cX3_many 4 (some .int), Cond.methodLink RX3 96 yX3_begins, Cond.instanceMethod yX3_begins, Cond.selects RX3 yX3_begins yX3_begins, Cond.code yX3_begins cX3_begins 5 (some .boolean), Cond.methodLink RL 143 yL_instruction, Cond.static yL_instruction]
def wsL_law0_r19 : List Cond := [Cond.codeWith yL_instruction cL_instruction 6 (some .int) [(0, 12, 15, 25)], Cond.methodLink RL 54 yX2_instruction, Cond.instanceMethod yX2_instruction, Cond.selects RX2 yX2_instruction yX2_instruction, Cond.code yX2_instruction cX2_instruction 5 (some .int), Cond.methodLink RX2 149 yX0_tell, Cond.instanceMethod yX0_tell, Cond.selects RX0 yX0_tell yX0_tell, Cond.code yX0_tell cX0_tell 6 (some .int), Cond.methodLink RX0 57 yX1_sumOf, Cond.methodLink RL 145 yX3_instruction, Cond.instanceMethod yX3_instruction, Cond.selects RX3 yX3_instruction yX3_instruction, Cond.code yX3_instruction cX3_instruction 4 (some .int), Cond.methodLink RX3 103 yX3_told, Cond.instanceMethod yX3_told, Cond.selects RX3 yX3_told yX3_told, Cond.code yX3_told cX3_told 7 (some .int), Cond.methodLink RL 146 yL_cost, Cond.static yL_cost, Cond.codeWith yL_cost cL_cost 4 (some .int) [(0, 9, 12, 25)], Cond.methodLink RL 57 yX2_cost, Cond.instanceMethod yX2_cost, Cond.selects RX2 yX2_cost yX2_cost]
def wsL_law0_r20 : List Cond := [Cond.code yX2_cost cX2_cost 2 (some .int), Cond.fieldLink RX2 152 "DeltaUpdater$Patch" "price" "I", Cond.methodLink RL 148 yX3_cost, Cond.instanceMethod yX3_cost, Cond.selects RX3 yX3_cost yX3_cost, Cond.code yX3_cost cX3_cost 2 (some .int), Cond.methodLink RX3 110 yX3_costOf, Cond.instanceMethod yX3_costOf, Cond.selects RX3 yX3_costOf yX3_costOf, Cond.code yX3_costOf cX3_costOf 4 (some .int), Cond.methodLink RX3 107 yX3_literals, Cond.instanceMethod yX3_literals, Cond.selects RX3 yX3_literals yX3_literals, Cond.code yX3_literals cX3_literals 7 (some .int), Cond.methodLink RL 149 yL_newness, Cond.static yL_newness, Cond.codeWith yL_newness cL_newness 4 (some .int) [(0, 8, 11, 25)], Cond.methodLink RL 60 yX2_newness, Cond.instanceMethod yX2_newness, Cond.selects RX2 yX2_newness yX2_newness, Cond.code yX2_newness cX2_newness 4 (some .double), Cond.fieldLink RX2 155 "DeltaUpdater$Patch" "literalBytes" "I", Cond.methodLink RL 152 yX3_newness, Cond.instanceMethod yX3_newness]
def wsL_law0_r21 : List Cond := [Cond.selects RX3 yX3_newness yX3_newness, Cond.code yX3_newness cX3_newness 2 (some .double), Cond.methodLink RL 153 yL_apply, Cond.static yL_apply, Cond.codeWith yL_apply cL_apply 5 (some .int) [(0, 10, 13, 25), (0, 10, 17, 13), (0, 10, 21, 15)], Cond.methodLink RL 64 yX2_apply, Cond.instanceMethod yX2_apply, Cond.selects RX2 yX2_apply yX2_apply, Cond.code yX2_apply cX2_apply 5 (some .int), Cond.methodLink RL 155 yX3_apply, Cond.instanceMethod yX3_apply, Cond.selects RX3 yX3_apply yX3_apply, Cond.code yX3_apply cX3_apply 3 (some .int), Cond.methodLink RL 156 yL_steps, Cond.static yL_steps, Cond.codeWith yL_steps cL_steps 5 (some .int) [(0, 10, 13, 25)], Cond.methodLink RL 67 yX2_steps, Cond.instanceMethod yX2_steps, Cond.selects RX2 yX2_steps yX2_steps, Cond.code yX2_steps cX2_steps 3 (some .int), Cond.methodLink RX2 160 yX2_leastWay, Cond.instanceMethod yX2_leastWay, Cond.selects RX2 yX2_leastWay yX2_leastWay, Cond.code yX2_leastWay cX2_leastWay 9 (some .int)]
def wsL_law0_r22 : List Cond := [Cond.methodLink RX2 205 yJ7_fill_53178, Cond.static yJ7_fill_53178, Cond.code yJ7_fill_53178 cJ7_fill_53178 4 none, Cond.methodLink RX2 210 yX2_reachBy, Cond.instanceMethod yX2_reachBy, Cond.selects RX2 yX2_reachBy yX2_reachBy, Cond.code yX2_reachBy cX2_reachBy 5 none, Cond.methodLink RL 158 yX3_steps, Cond.instanceMethod yX3_steps, Cond.selects RX3 yX3_steps yX3_steps, Cond.code yX3_steps cX3_steps 3 (some .int), Cond.methodLink RX3 113 yX3_lead, Cond.instanceMethod yX3_lead, Cond.selects RX3 yX3_lead yX3_lead, Cond.code yX3_lead cX3_lead 9 (some .int), Cond.methodLink RL 159 yL_leastCost, Cond.static yL_leastCost, Cond.codeWith yL_leastCost cL_leastCost 5 (some .int) [(0, 10, 13, 25)], Cond.methodLink RL 70 yX2_leastCost, Cond.instanceMethod yX2_leastCost, Cond.selects RX2 yX2_leastCost yX2_leastCost, Cond.code yX2_leastCost cX2_leastCost 3 (some .int), Cond.methodLink RL 161 yX3_leastCost, Cond.instanceMethod yX3_leastCost]
def wsL_law0_r23 : List Cond := [Cond.selects RX3 yX3_leastCost yX3_leastCost, Cond.code yX3_leastCost cX3_leastCost 3 (some .int), Cond.methodLink RL 162 yL_installVersion, Cond.static yL_installVersion, Cond.codeWith yL_installVersion cL_installVersion 4 (some .int) [(0, 9, 12, 25)], Cond.methodLink RL 73 yX2_installVersion, Cond.instanceMethod yX2_installVersion, Cond.selects RX2 yX2_installVersion yX2_installVersion, Cond.code yX2_installVersion cX2_installVersion 2 (some .int), Cond.methodLink RX2 164 yX2_install, Cond.instanceMethod yX2_install, Cond.selects RX2 yX2_install yX2_install, Cond.code yX2_install cX2_install 2 (some .int), Cond.methodLink RX2 176 yJx4a65c_remove_915e3, Cond.instanceMethod yJx4a65c_remove_915e3, Cond.selects RJx4a65c yJx4a65c_remove_915e3 yJx4a65c_remove_915e3, Cond.code yJx4a65c_remove_915e3 cJx4a65c_remove_915e3 4 (some (.object "java/lang/Object")), Cond.methodLink RJx4a65c 144 yJx4a65c_fastRemove_b59b0, Cond.instanceMethod yJx4a65c_fastRemove_b59b0, Cond.selects RJx4a65c yJx4a65c_fastRemove_b59b0 yJx4a65c_fastRemove_b59b0, Cond.code yJx4a65c_fastRemove_b59b0 cJx4a65c_fastRemove_b59b0 4 none, Cond.methodLink RJx4a65c 112 arraycopyName, Cond.methodLink RL 164 yX3_installVersion, Cond.instanceMethod yX3_installVersion]
def wsL_law0_r24 : List Cond := [Cond.selects RX3 yX3_installVersion yX3_installVersion, Cond.code yX3_installVersion cX3_installVersion 2 (some .int), Cond.methodLink RX3 120 yX3_install, Cond.instanceMethod yX3_install, Cond.selects RX3 yX3_install yX3_install, Cond.code yX3_install cX3_install 3 (some .int), Cond.fieldLink RX3 117 "DeltaUpdaterModel" "remembered" "I", Cond.methodLink RL 165 yL_installPatch, Cond.static yL_installPatch, Cond.codeWith yL_installPatch cL_installPatch 4 (some .int) [(0, 9, 12, 25), (0, 9, 15, 13)], Cond.methodLink RL 76 yX2_installPatch, Cond.instanceMethod yX2_installPatch, Cond.selects RX2 yX2_installPatch yX2_installPatch, Cond.code yX2_installPatch cX2_installPatch 3 (some .int), Cond.methodLink RL 167 yX3_installPatch, Cond.instanceMethod yX3_installPatch, Cond.selects RX3 yX3_installPatch yX3_installPatch, Cond.code yX3_installPatch cX3_installPatch 2 (some .int), Cond.methodLink RL 168 yL_rollBack, Cond.static yL_rollBack, Cond.codeWith yL_rollBack cL_rollBack 3 (some .int) [(0, 8, 11, 15)], Cond.methodLink RL 79 yX2_rollBack, Cond.instanceMethod yX2_rollBack, Cond.selects RX2 yX2_rollBack yX2_rollBack]
def wsL_law0_r25 : List Cond := [Cond.code yX2_rollBack cX2_rollBack 2 (some .int), Cond.methodLink RL 170 yX3_rollBack, Cond.instanceMethod yX3_rollBack, Cond.selects RX3 yX3_rollBack yX3_rollBack, Cond.code yX3_rollBack cX3_rollBack 1 (some .int), Cond.methodLink RL 171 yL_isInstalled, Cond.static yL_isInstalled, Cond.codeWith yL_isInstalled cL_isInstalled 4 (some .int) [(0, 16, 19, 25)], Cond.methodLink RL 82 yX2_isInstalled, Cond.instanceMethod yX2_isInstalled, Cond.selects RX2 yX2_isInstalled yX2_isInstalled, Cond.code yX2_isInstalled cX2_isInstalled 2 (some .boolean), Cond.methodLink RL 173 yX3_isInstalled, Cond.instanceMethod yX3_isInstalled, Cond.selects RX3 yX3_isInstalled yX3_isInstalled, Cond.code yX3_isInstalled cX3_isInstalled 2 (some .boolean), Cond.methodLink RL 174 yX2_installedLength, Cond.instanceMethod yX2_installedLength, Cond.selects RX2 yX2_installedLength yX2_installedLength, Cond.code yX2_installedLength cX2_installedLength 1 (some .int), Cond.methodLink RL 177 yX3_installedLength, Cond.instanceMethod yX3_installedLength, Cond.selects RX3 yX3_installedLength yX3_installedLength, Cond.code yX3_installedLength cX3_installedLength 1 (some .int)]
def wsL_law0_r26 : List Cond := [Cond.methodLink RL 178 yX2_digest, Cond.instanceMethod yX2_digest, Cond.selects RX2 yX2_digest yX2_digest, Cond.code yX2_digest cX2_digest 5 (some .long), Cond.constantLong RX2 179 (233), Cond.constantLong RX2 185 (31), Cond.methodLink RX2 181 yX2_digestOfBytes, Cond.static yX2_digestOfBytes, Cond.code yX2_digestOfBytes cX2_digestOfBytes 7 (some .long), Cond.methodLink RX2 187 yX2_digestOfPatch, Cond.static yX2_digestOfPatch, Cond.code yX2_digestOfPatch cX2_digestOfPatch 7 (some .long), Cond.methodLink RL 182 yX3_digest, Cond.instanceMethod yX3_digest, Cond.selects RX3 yX3_digest yX3_digest, Cond.code yX3_digest cX3_digest 7 (some .long), Cond.constantLong RX3 125 (233), Cond.constantLong RX3 123 (31), Cond.methodLink RX3 127 yX3_with, Cond.static yX3_with, Cond.code yX3_with cX3_with 7 (some .long)]
def wsL_law0 : List Cond := (wsL_law0_r1 ++ (wsL_law0_r2 ++ (wsL_law0_r3 ++ (wsL_law0_r4 ++ (wsL_law0_r5 ++ (wsL_law0_r6 ++ (wsL_law0_r7 ++ (wsL_law0_r8 ++ (wsL_law0_r9 ++ (wsL_law0_r10 ++ (wsL_law0_r11 ++ (wsL_law0_r12 ++ (wsL_law0_r13 ++ (wsL_law0_r14 ++ (wsL_law0_r15 ++ (wsL_law0_r16 ++ (wsL_law0_r17 ++ (wsL_law0_r18 ++ (wsL_law0_r19 ++ (wsL_law0_r20 ++ (wsL_law0_r21 ++ (wsL_law0_r22 ++ (wsL_law0_r23 ++ (wsL_law0_r24 ++ (wsL_law0_r25 ++ wsL_law0_r26))))))))))))))))))))))))) ++ wsX20 ++ wsX30 ++ wsJx4a65c0 ++ wsX10 ++ wsX00 ++ ([] : List Cond)
def wsL_law : List Cond := wsL_law0 ++ (vx_atS RX2 49 "java/lang/IllegalArgumentException" ["java/lang/RuntimeException", "java/lang/Exception"]).filter goodWord ++ (vx_atS RX2 56 "java/lang/IllegalStateException" ["java/lang/RuntimeException", "java/lang/Exception"]).filter goodWord ++ (vx_atS RX2 79 "java/lang/IndexOutOfBoundsException" ["java/lang/RuntimeException", "java/lang/Exception"]).filter goodWord
abbrev vwCl : List vw_C := [(RJx4a65c, TJx4a65c, 3), (RX0, TX0, 7), (RX1, TX1, 1), (RX2, TX2, 8), (RX3, TX3, 12)]
end
section
set_option maxRecDepth 20000 in
theorem wsL_law0_r1_g : GoodIn lw_tbl wsL_law0_r1 := goodIn_p _ [49, 52] (by decide +kernel) (by decide +kernel)
set_option maxRecDepth 20000 in
theorem wsL_law0_r2_g : GoodIn lw_tbl wsL_law0_r2 := goodIn_p _ [57, 60, 63, 84] (by decide +kernel) (by decide +kernel)
set_option maxRecDepth 20000 in
theorem wsL_law0_r3_g : GoodIn lw_tbl wsL_law0_r3 := goodIn_p _ [88, 98, 615] (by decide +kernel) (by decide +kernel)
set_option maxRecDepth 20000 in
theorem wsL_law0_r4_g : GoodIn lw_tbl wsL_law0_r4 := goodIn_p _ [191] (by decide +kernel) (by decide +kernel)
set_option maxRecDepth 20000 in
theorem wsL_law0_r5_g : GoodIn lw_tbl wsL_law0_r5 := goodIn_p _ [663, 666, 670, 659, 282] (by decide +kernel) (by decide +kernel)
set_option maxRecDepth 20000 in
theorem wsL_law0_r6_g : GoodIn lw_tbl wsL_law0_r6 := goodIn_p _ [286, 139, 291, 295, 299] (by decide +kernel) (by decide +kernel)
set_option maxRecDepth 20000 in
theorem wsL_law0_r7_g : GoodIn lw_tbl wsL_law0_r7 := goodIn_p _ [303, 309, 306, 313, 316] (by decide +kernel) (by decide +kernel)
set_option maxRecDepth 20000 in
theorem wsL_law0_r8_g : GoodIn lw_tbl wsL_law0_r8 := goodIn_p _ [331, 675, 680, 135, 684] (by decide +kernel) (by decide +kernel)
set_option maxRecDepth 20000 in
theorem wsL_law0_r9_g : GoodIn lw_tbl wsL_law0_r9 := goodIn_p _ [344, 348, 160, 163] (by decide +kernel) (by decide +kernel)
set_option maxRecDepth 20000 in
theorem wsL_law0_r10_g : GoodIn lw_tbl wsL_law0_r10 := goodIn_p _ [166, 170, 688, 692, 371, 696] (by decide +kernel) (by decide +kernel)
set_option maxRecDepth 20000 in
theorem wsL_law0_r11_g : GoodIn lw_tbl wsL_law0_r11 := goodIn_p _ [379, 383, 387, 700, 703] (by decide +kernel) (by decide +kernel)
set_option maxRecDepth 20000 in
theorem wsL_law0_r12_g : GoodIn lw_tbl wsL_law0_r12 := goodIn_p _ [394, 182, 707, 710, 404] (by decide +kernel) (by decide +kernel)
set_option maxRecDepth 20000 in
theorem wsL_law0_r13_g : GoodIn lw_tbl wsL_law0_r13 := goodIn_p _ [407, 714, 717, 720, 416, 419] (by decide +kernel) (by decide +kernel)
set_option maxRecDepth 20000 in
theorem wsL_law0_r14_g : GoodIn lw_tbl wsL_law0_r14 := goodIn_p _ [724, 727, 426, 430, 434] (by decide +kernel) (by decide +kernel)
set_option maxRecDepth 20000 in
theorem wsL_law0_r15_g : GoodIn lw_tbl wsL_law0_r15 := goodIn_p _ [437, 442, 445, 449, 452] (by decide +kernel) (by decide +kernel)
set_option maxRecDepth 20000 in
theorem wsL_law0_r16_g : GoodIn lw_tbl wsL_law0_r16 := goodIn_p _ [456, 459, 731, 735, 495] (by decide +kernel) (by decide +kernel)
set_option maxRecDepth 20000 in
theorem wsL_law0_r17_g : GoodIn lw_tbl wsL_law0_r17 := goodIn_p _ [499, 504, 739, 743, 143] (by decide +kernel) (by decide +kernel)
set_option maxRecDepth 20000 in
theorem wsL_law0_r18_g : GoodIn lw_tbl wsL_law0_r18 := goodIn_p _ [747, 511, 751, 755, 759] (by decide +kernel) (by decide +kernel)
set_option maxRecDepth 20000 in
theorem wsL_law0_r19_g : GoodIn lw_tbl wsL_law0_r19 := goodIn_p _ [518, 178, 763, 767] (by decide +kernel) (by decide +kernel)
set_option maxRecDepth 20000 in
theorem wsL_law0_r20_g : GoodIn lw_tbl wsL_law0_r20 := goodIn_p _ [527, 771, 775, 779, 534] (by decide +kernel) (by decide +kernel)
set_option maxRecDepth 20000 in
theorem wsL_law0_r21_g : GoodIn lw_tbl wsL_law0_r21 := goodIn_p _ [783, 541, 787, 549, 553] (by decide +kernel) (by decide +kernel)
set_option maxRecDepth 20000 in
theorem wsL_law0_r22_g : GoodIn lw_tbl wsL_law0_r22 := goodIn_p _ [556, 560, 791, 795, 567] (by decide +kernel) (by decide +kernel)
set_option maxRecDepth 20000 in
theorem wsL_law0_r23_g : GoodIn lw_tbl wsL_law0_r23 := goodIn_p _ [799, 574, 578, 582, 586] (by decide +kernel) (by decide +kernel)
set_option maxRecDepth 20000 in
theorem wsL_law0_r24_g : GoodIn lw_tbl wsL_law0_r24 := goodIn_p _ [803, 807, 594, 811] (by decide +kernel) (by decide +kernel)
set_option maxRecDepth 20000 in
theorem wsL_law0_r25_g : GoodIn lw_tbl wsL_law0_r25 := goodIn_p _ [602, 815, 610, 819, 147, 823] (by decide +kernel) (by decide +kernel)
set_option maxRecDepth 20000 in
theorem wsL_law0_r26_g : GoodIn lw_tbl wsL_law0_r26 := goodIn_p _ [151, 155, 174, 827, 831] (by decide +kernel) (by decide +kernel)
set_option maxRecDepth 100000 in
theorem wsL_law_in0 : ∀ w ∈ wsL_law0, w ∈ lw_tbl := by
  have t26 := wsL_law0_r26_g
  have t25 := goodIn_app wsL_law0_r25_g t26
  have t24 := goodIn_app wsL_law0_r24_g t25
  have t23 := goodIn_app wsL_law0_r23_g t24
  have t22 := goodIn_app wsL_law0_r22_g t23
  have t21 := goodIn_app wsL_law0_r21_g t22
  have t20 := goodIn_app wsL_law0_r20_g t21
  have t19 := goodIn_app wsL_law0_r19_g t20
  have t18 := goodIn_app wsL_law0_r18_g t19
  have t17 := goodIn_app wsL_law0_r17_g t18
  have t16 := goodIn_app wsL_law0_r16_g t17
  have t15 := goodIn_app wsL_law0_r15_g t16
  have t14 := goodIn_app wsL_law0_r14_g t15
  have t13 := goodIn_app wsL_law0_r13_g t14
  have t12 := goodIn_app wsL_law0_r12_g t13
  have t11 := goodIn_app wsL_law0_r11_g t12
  have t10 := goodIn_app wsL_law0_r10_g t11
  have t9 := goodIn_app wsL_law0_r9_g t10
  have t8 := goodIn_app wsL_law0_r8_g t9
  have t7 := goodIn_app wsL_law0_r7_g t8
  have t6 := goodIn_app wsL_law0_r6_g t7
  have t5 := goodIn_app wsL_law0_r5_g t6
  have t4 := goodIn_app wsL_law0_r4_g t5
  have t3 := goodIn_app wsL_law0_r3_g t4
  have t2 := goodIn_app wsL_law0_r2_g t3
  have t1 := goodIn_app wsL_law0_r1_g t2
  have v0 : GoodIn lw_tbl wsX20 := goodIn_p _ [] (by decide +kernel) (by decide +kernel)
  have u0 := goodIn_app t1 v0
  have v1 : GoodIn lw_tbl wsX30 := goodIn_p _ [] (by decide +kernel) (by decide +kernel)
  have u1 := goodIn_app u0 v1
  have v2 : GoodIn lw_tbl wsJx4a65c0 := goodIn_p _ [] (by decide +kernel) (by decide +kernel)
  have u2 := goodIn_app u1 v2
  have v3 : GoodIn lw_tbl wsX10 := goodIn_p _ [] (by decide +kernel) (by decide +kernel)
  have u3 := goodIn_app u2 v3
  have v4 : GoodIn lw_tbl wsX00 := goodIn_p _ [] (by decide +kernel) (by decide +kernel)
  have u4 := goodIn_app u3 v4
  unfold wsL_law0
  exact fun w h => (u4 w h).1
theorem wsL_law_x0 : ∀ w ∈ (vx_atS RX2 49 "java/lang/IllegalArgumentException" ["java/lang/RuntimeException", "java/lang/Exception"]).filter goodWord, w ∈ lw_tbl := by decide +kernel
theorem wsL_law_x1 : ∀ w ∈ (vx_atS RX2 56 "java/lang/IllegalStateException" ["java/lang/RuntimeException", "java/lang/Exception"]).filter goodWord, w ∈ lw_tbl := by decide +kernel
theorem wsL_law_x2 : ∀ w ∈ (vx_atS RX2 79 "java/lang/IndexOutOfBoundsException" ["java/lang/RuntimeException", "java/lang/Exception"]).filter goodWord, w ∈ lw_tbl := by decide +kernel
theorem wsL_law_in : ∀ w ∈ wsL_law, w ∈ lw_tbl := fun w h => (List.mem_append.mp h).elim (fun h => (List.mem_append.mp h).elim (fun h => (List.mem_append.mp h).elim (fun h => wsL_law_in0 w h) (fun h => wsL_law_x0 w h)) (fun h => wsL_law_x1 w h)) (fun h => wsL_law_x2 w h)
theorem inlX0 : ∀ w ∈ wsX00, w ∈ wsL_law := fun _ h => List.mem_append_left _ (List.mem_append_left _ (List.mem_append_left _ (List.mem_append_left _ (List.mem_append_right _ h))))
theorem inX0 : ∀ w ∈ wsX00, w ∈ lw_tbl := fun w h => wsL_law_in w (inlX0 w h)
theorem inlX1 : ∀ w ∈ wsX10, w ∈ wsL_law := fun _ h => List.mem_append_left _ (List.mem_append_left _ (List.mem_append_left _ (List.mem_append_left _ (List.mem_append_left _ (List.mem_append_right _ h)))))
theorem inX1 : ∀ w ∈ wsX10, w ∈ lw_tbl := fun w h => wsL_law_in w (inlX1 w h)
theorem inlX2 : ∀ w ∈ wsX20, w ∈ wsL_law := fun _ h => List.mem_append_left _ (List.mem_append_left _ (List.mem_append_left _ (List.mem_append_left _ (List.mem_append_left _ (List.mem_append_left _ (List.mem_append_left _ (List.mem_append_left _ (List.mem_append_right _ h))))))))
theorem inX2 : ∀ w ∈ wsX20, w ∈ lw_tbl := fun w h => wsL_law_in w (inlX2 w h)
theorem inlX3 : ∀ w ∈ wsX30, w ∈ wsL_law := fun _ h => List.mem_append_left _ (List.mem_append_left _ (List.mem_append_left _ (List.mem_append_left _ (List.mem_append_left _ (List.mem_append_left _ (List.mem_append_left _ (List.mem_append_right _ h)))))))
theorem inX3 : ∀ w ∈ wsX30, w ∈ lw_tbl := fun w h => wsL_law_in w (inlX3 w h)
theorem inJx145de : ∀ w ∈ wsJx145de0, w ∈ lw_tbl := by decide +kernel
theorem inJx8e188 : ∀ w ∈ wsJx8e1880, w ∈ lw_tbl := by decide +kernel
theorem inJxab1ab : ∀ w ∈ wsJxab1ab0, w ∈ lw_tbl := by decide +kernel
theorem inJ9 : ∀ w ∈ wsJ90, w ∈ lw_tbl := by decide +kernel
theorem inJ0 : ∀ w ∈ wsJ00, w ∈ lw_tbl := by decide +kernel
theorem inJ10 : ∀ w ∈ wsJ100, w ∈ lw_tbl := by decide +kernel
theorem inJxa1e45 : ∀ w ∈ wsJxa1e450, w ∈ lw_tbl := by decide +kernel
theorem inJxc12de : ∀ w ∈ wsJxc12de0, w ∈ lw_tbl := by decide +kernel
theorem inlJx4a65c : ∀ w ∈ wsJx4a65c0, w ∈ wsL_law := fun _ h => List.mem_append_left _ (List.mem_append_left _ (List.mem_append_left _ (List.mem_append_left _ (List.mem_append_left _ (List.mem_append_left _ (List.mem_append_right _ h))))))
theorem inJx4a65c : ∀ w ∈ wsJx4a65c0, w ∈ lw_tbl := fun w h => wsL_law_in w (inlJx4a65c w h)
theorem inJ7 : ∀ w ∈ wsJ70, w ∈ lw_tbl := by decide +kernel
theorem inJx5ef63 : ∀ w ∈ wsJx5ef630, w ∈ lw_tbl := by decide +kernel
theorem inJxbd725 : ∀ w ∈ wsJxbd7250, w ∈ lw_tbl := by decide +kernel
theorem inJ15 : ∀ w ∈ wsJ150, w ∈ lw_tbl := by decide +kernel
theorem inJxf0a74 : ∀ w ∈ wsJxf0a740, w ∈ lw_tbl := by decide +kernel
theorem inJxa66e6 : ∀ w ∈ wsJxa66e60, w ∈ lw_tbl := by decide +kernel
theorem inJ8 : ∀ w ∈ wsJ80, w ∈ lw_tbl := by decide +kernel
theorem inJ3 : ∀ w ∈ wsJ30, w ∈ lw_tbl := by decide +kernel
end
section
set_option maxRecDepth 20000 in
theorem ggX0_init_X0_startsIn : GoodIn wsX0_init wsX0_startsIn := goodIn_r _ [14, 15, 16, 17, 13, 18, 19, 20, 21, 22, 23, 24, 25, 26, 27, 28, 29, 30, 31, 32, 33, 34, 35, 36] (by decide +kernel) (by decide +kernel)
set_option maxRecDepth 20000 in
theorem gX0_init_X0_startsIn : GoodIn wsX0_init (va_wsS RX0 26 yX0_startsIn wsX0_startsIn) := goodIn_app (goodIn_of _ (by decide +kernel)) ggX0_init_X0_startsIn
set_option maxRecDepth 20000 in
theorem ggX0_init_X0_literalsIn : GoodIn wsX0_init wsX0_literalsIn := goodIn_r _ [39] (by decide +kernel) (by decide +kernel)
set_option maxRecDepth 20000 in
theorem gX0_init_X0_literalsIn : GoodIn wsX0_init (va_wsS RX0 33 yX0_literalsIn wsX0_literalsIn) := goodIn_app (goodIn_of _ (by decide +kernel)) ggX0_init_X0_literalsIn
set_option maxRecDepth 20000 in
theorem ggX0_init_X0_priceOf : GoodIn wsX0_init wsX0_priceOf := goodIn_r _ [42] (by decide +kernel) (by decide +kernel)
set_option maxRecDepth 20000 in
theorem gX0_init_X0_priceOf : GoodIn wsX0_init (va_wsS RX0 40 yX0_priceOf wsX0_priceOf) := goodIn_app (goodIn_of _ (by decide +kernel)) ggX0_init_X0_priceOf
theorem dX0_init_0 : decode cX0_init 0 = .ok (.aload_n 0, 1) := by decide +kernel
theorem dX0_init_1 : decode cX0_init 1 = .ok (.invokespecial 3, 3) := by decide +kernel
theorem dX0_init_4 : decode cX0_init 4 = .ok (.aload_n 0, 1) := by decide +kernel
theorem dX0_init_5 : decode cX0_init 5 = .ok (.iload_n 1, 1) := by decide +kernel
theorem dX0_init_6 : decode cX0_init 6 = .ok (.putfield 9, 3) := by decide +kernel
theorem dX0_init_9 : decode cX0_init 9 = .ok (.aload_n 0, 1) := by decide +kernel
theorem dX0_init_10 : decode cX0_init 10 = .ok (.iload_n 2, 1) := by decide +kernel
theorem dX0_init_11 : decode cX0_init 11 = .ok (.putfield 15, 3) := by decide +kernel
theorem dX0_init_14 : decode cX0_init 14 = .ok (.aload_n 0, 1) := by decide +kernel
theorem dX0_init_15 : decode cX0_init 15 = .ok (.aload_n 3, 1) := by decide +kernel
theorem dX0_init_16 : decode cX0_init 16 = .ok (.putfield 18, 3) := by decide +kernel
theorem dX0_init_19 : decode cX0_init 19 = .ok (.aload_n 0, 1) := by decide +kernel
theorem dX0_init_20 : decode cX0_init 20 = .ok (.aload 4, 2) := by decide +kernel
theorem dX0_init_22 : decode cX0_init 22 = .ok (.putfield 22, 3) := by decide +kernel
theorem dX0_init_25 : decode cX0_init 25 = .ok (.aload_n 0, 1) := by decide +kernel
theorem dX0_init_26 : decode cX0_init 26 = .ok (.aload 4, 2) := by decide +kernel
theorem dX0_init_28 : decode cX0_init 28 = .ok (.invokestatic 26, 3) := by decide +kernel
theorem dX0_init_31 : decode cX0_init 31 = .ok (.putfield 30, 3) := by decide +kernel
theorem dX0_init_34 : decode cX0_init 34 = .ok (.aload_n 0, 1) := by decide +kernel
theorem dX0_init_35 : decode cX0_init 35 = .ok (.aload 4, 2) := by decide +kernel
theorem dX0_init_37 : decode cX0_init 37 = .ok (.invokestatic 33, 3) := by decide +kernel
theorem dX0_init_40 : decode cX0_init 40 = .ok (.putfield 37, 3) := by decide +kernel
theorem dX0_init_43 : decode cX0_init 43 = .ok (.aload_n 0, 1) := by decide +kernel
theorem dX0_init_44 : decode cX0_init 44 = .ok (.aload 4, 2) := by decide +kernel
theorem dX0_init_46 : decode cX0_init 46 = .ok (.aload_n 0, 1) := by decide +kernel
theorem dX0_init_47 : decode cX0_init 47 = .ok (.getfield 30, 3) := by decide +kernel
theorem dX0_init_50 : decode cX0_init 50 = .ok (.aload_n 0, 1) := by decide +kernel
theorem dX0_init_51 : decode cX0_init 51 = .ok (.getfield 37, 3) := by decide +kernel
theorem dX0_init_54 : decode cX0_init 54 = .ok (.invokestatic 40, 3) := by decide +kernel
theorem dX0_init_57 : decode cX0_init 57 = .ok (.putfield 44, 3) := by decide +kernel
theorem dX0_init_60 : decode cX0_init 60 = .ok (.return_, 1) := by decide +kernel
theorem dX0_startsAt_0 : decode cX0_startsAt 0 = .ok (.iload_n 1, 1) := by decide +kernel
theorem dX0_startsAt_1 : decode cX0_startsAt 1 = .ok (.ifCond .ne 5, 3) := by decide +kernel
theorem dX0_startsAt_4 : decode cX0_startsAt 4 = .ok (.iconst 1, 1) := by decide +kernel
theorem dX0_startsAt_5 : decode cX0_startsAt 5 = .ok (.ireturn, 1) := by decide +kernel
theorem dX0_startsAt_6 : decode cX0_startsAt 6 = .ok (.aload_n 0, 1) := by decide +kernel
theorem dX0_startsAt_7 : decode cX0_startsAt 7 = .ok (.iload_n 1, 1) := by decide +kernel
theorem dX0_startsAt_8 : decode cX0_startsAt 8 = .ok (.iconst 1, 1) := by decide +kernel
theorem dX0_startsAt_9 : decode cX0_startsAt 9 = .ok (.isub, 1) := by decide +kernel
theorem dX0_startsAt_10 : decode cX0_startsAt 10 = .ok (.iaload, 1) := by decide +kernel
theorem dX0_startsAt_11 : decode cX0_startsAt 11 = .ok (.istore_n 2, 1) := by decide +kernel
theorem dX0_startsAt_12 : decode cX0_startsAt 12 = .ok (.aload_n 0, 1) := by decide +kernel
theorem dX0_startsAt_13 : decode cX0_startsAt 13 = .ok (.iload_n 1, 1) := by decide +kernel
theorem dX0_startsAt_14 : decode cX0_startsAt 14 = .ok (.iaload, 1) := by decide +kernel
theorem dX0_startsAt_15 : decode cX0_startsAt 15 = .ok (.iload_n 2, 1) := by decide +kernel
theorem dX0_startsAt_16 : decode cX0_startsAt 16 = .ok (.iconst (-1), 1) := by decide +kernel
theorem dX0_startsAt_17 : decode cX0_startsAt 17 = .ok (.if_icmp .ne 7, 3) := by decide +kernel
theorem dX0_startsAt_20 : decode cX0_startsAt 20 = .ok (.iconst (-1), 1) := by decide +kernel
theorem dX0_startsAt_21 : decode cX0_startsAt 21 = .ok (.goto 6, 3) := by decide +kernel
theorem dX0_startsAt_24 : decode cX0_startsAt 24 = .ok (.iload_n 2, 1) := by decide +kernel
theorem dX0_startsAt_25 : decode cX0_startsAt 25 = .ok (.iconst 1, 1) := by decide +kernel
theorem dX0_startsAt_26 : decode cX0_startsAt 26 = .ok (.iadd, 1) := by decide +kernel
theorem dX0_startsAt_27 : decode cX0_startsAt 27 = .ok (.if_icmp .eq 7, 3) := by decide +kernel
theorem dX0_startsAt_30 : decode cX0_startsAt 30 = .ok (.iconst 1, 1) := by decide +kernel
theorem dX0_startsAt_31 : decode cX0_startsAt 31 = .ok (.goto 4, 3) := by decide +kernel
theorem dX0_startsAt_34 : decode cX0_startsAt 34 = .ok (.iconst 0, 1) := by decide +kernel
theorem dX0_startsAt_35 : decode cX0_startsAt 35 = .ok (.ireturn, 1) := by decide +kernel
set_option maxRecDepth 20000 in
theorem ggX0_startsIn_X0_startsAt : GoodIn wsX0_startsIn wsX0_startsAt := goodIn_r _ [5] (by decide +kernel) (by decide +kernel)
set_option maxRecDepth 20000 in
theorem gX0_startsIn_X0_startsAt : GoodIn wsX0_startsIn (va_wsS RX0 47 yX0_startsAt wsX0_startsAt) := goodIn_app (goodIn_of _ (by decide +kernel)) ggX0_startsIn_X0_startsAt
set_option maxRecDepth 20000 in
theorem ggX0_startsIn_J7_copyOf_59c91 : GoodIn wsX0_startsIn wsJ7_copyOf_59c91 := goodIn_r _ [9, 10, 11, 12, 13, 14, 15, 1, 16, 17, 18, 19, 20, 21, 22, 23] (by decide +kernel) (by decide +kernel)
set_option maxRecDepth 20000 in
theorem gX0_startsIn_J7_copyOf_59c91 : GoodIn wsX0_startsIn (va_wsS RX0 51 yJ7_copyOf_59c91 wsJ7_copyOf_59c91) := goodIn_app (goodIn_of _ (by decide +kernel)) ggX0_startsIn_J7_copyOf_59c91
theorem dX0_startsIn_0 : decode cX0_startsIn 0 = .ok (.aload_n 0, 1) := by decide +kernel
theorem dX0_startsIn_1 : decode cX0_startsIn 1 = .ok (.arraylength, 1) := by decide +kernel
theorem dX0_startsIn_2 : decode cX0_startsIn 2 = .ok (.newarray .int, 2) := by decide +kernel
theorem dX0_startsIn_4 : decode cX0_startsIn 4 = .ok (.astore_n 1, 1) := by decide +kernel
theorem dX0_startsIn_5 : decode cX0_startsIn 5 = .ok (.iconst 0, 1) := by decide +kernel
theorem dX0_startsIn_6 : decode cX0_startsIn 6 = .ok (.istore_n 2, 1) := by decide +kernel
theorem dX0_startsIn_7 : decode cX0_startsIn 7 = .ok (.iconst 0, 1) := by decide +kernel
theorem dX0_startsIn_8 : decode cX0_startsIn 8 = .ok (.istore_n 3, 1) := by decide +kernel
theorem dX0_startsIn_9 : decode cX0_startsIn 9 = .ok (.iload_n 3, 1) := by decide +kernel
theorem dX0_startsIn_10 : decode cX0_startsIn 10 = .ok (.aload_n 0, 1) := by decide +kernel
theorem dX0_startsIn_11 : decode cX0_startsIn 11 = .ok (.arraylength, 1) := by decide +kernel
theorem dX0_startsIn_12 : decode cX0_startsIn 12 = .ok (.if_icmp .ge 24, 3) := by decide +kernel
theorem dX0_startsIn_15 : decode cX0_startsIn 15 = .ok (.aload_n 0, 1) := by decide +kernel
theorem dX0_startsIn_16 : decode cX0_startsIn 16 = .ok (.iload_n 3, 1) := by decide +kernel
theorem dX0_startsIn_17 : decode cX0_startsIn 17 = .ok (.invokestatic 47, 3) := by decide +kernel
theorem dX0_startsIn_20 : decode cX0_startsIn 20 = .ok (.ifCond .eq 10, 3) := by decide +kernel
theorem dX0_startsIn_23 : decode cX0_startsIn 23 = .ok (.aload_n 1, 1) := by decide +kernel
theorem dX0_startsIn_24 : decode cX0_startsIn 24 = .ok (.iload_n 2, 1) := by decide +kernel
theorem dX0_startsIn_25 : decode cX0_startsIn 25 = .ok (.iload_n 3, 1) := by decide +kernel
theorem dX0_startsIn_26 : decode cX0_startsIn 26 = .ok (.iastore, 1) := by decide +kernel
theorem dX0_startsIn_27 : decode cX0_startsIn 27 = .ok (.iinc 2 1, 3) := by decide +kernel
theorem dX0_startsIn_30 : decode cX0_startsIn 30 = .ok (.iinc 3 1, 3) := by decide +kernel
theorem dX0_startsIn_33 : decode cX0_startsIn 33 = .ok (.goto (-24), 3) := by decide +kernel
theorem dX0_startsIn_36 : decode cX0_startsIn 36 = .ok (.aload_n 1, 1) := by decide +kernel
theorem dX0_startsIn_37 : decode cX0_startsIn 37 = .ok (.iload_n 2, 1) := by decide +kernel
theorem dX0_startsIn_38 : decode cX0_startsIn 38 = .ok (.invokestatic 51, 3) := by decide +kernel
theorem dX0_startsIn_41 : decode cX0_startsIn 41 = .ok (.areturn, 1) := by decide +kernel
theorem dX0_literalsIn_0 : decode cX0_literalsIn 0 = .ok (.iconst 0, 1) := by decide +kernel
theorem dX0_literalsIn_1 : decode cX0_literalsIn 1 = .ok (.istore_n 1, 1) := by decide +kernel
theorem dX0_literalsIn_2 : decode cX0_literalsIn 2 = .ok (.iconst 0, 1) := by decide +kernel
theorem dX0_literalsIn_3 : decode cX0_literalsIn 3 = .ok (.istore_n 2, 1) := by decide +kernel
theorem dX0_literalsIn_4 : decode cX0_literalsIn 4 = .ok (.iload_n 2, 1) := by decide +kernel
theorem dX0_literalsIn_5 : decode cX0_literalsIn 5 = .ok (.aload_n 0, 1) := by decide +kernel
theorem dX0_literalsIn_6 : decode cX0_literalsIn 6 = .ok (.arraylength, 1) := by decide +kernel
theorem dX0_literalsIn_7 : decode cX0_literalsIn 7 = .ok (.if_icmp .ge 19, 3) := by decide +kernel
theorem dX0_literalsIn_10 : decode cX0_literalsIn 10 = .ok (.aload_n 0, 1) := by decide +kernel
theorem dX0_literalsIn_11 : decode cX0_literalsIn 11 = .ok (.iload_n 2, 1) := by decide +kernel
theorem dX0_literalsIn_12 : decode cX0_literalsIn 12 = .ok (.iaload, 1) := by decide +kernel
theorem dX0_literalsIn_13 : decode cX0_literalsIn 13 = .ok (.iconst (-1), 1) := by decide +kernel
theorem dX0_literalsIn_14 : decode cX0_literalsIn 14 = .ok (.if_icmp .ne 6, 3) := by decide +kernel
theorem dX0_literalsIn_17 : decode cX0_literalsIn 17 = .ok (.iinc 1 1, 3) := by decide +kernel
theorem dX0_literalsIn_20 : decode cX0_literalsIn 20 = .ok (.iinc 2 1, 3) := by decide +kernel
theorem dX0_literalsIn_23 : decode cX0_literalsIn 23 = .ok (.goto (-19), 3) := by decide +kernel
theorem dX0_literalsIn_26 : decode cX0_literalsIn 26 = .ok (.iload_n 1, 1) := by decide +kernel
theorem dX0_literalsIn_27 : decode cX0_literalsIn 27 = .ok (.ireturn, 1) := by decide +kernel
theorem dX0_priceOf_0 : decode cX0_priceOf 0 = .ok (.iload_n 2, 1) := by decide +kernel
theorem dX0_priceOf_1 : decode cX0_priceOf 1 = .ok (.istore_n 3, 1) := by decide +kernel
theorem dX0_priceOf_2 : decode cX0_priceOf 2 = .ok (.iconst 0, 1) := by decide +kernel
theorem dX0_priceOf_3 : decode cX0_priceOf 3 = .ok (.istore 4, 2) := by decide +kernel
theorem dX0_priceOf_5 : decode cX0_priceOf 5 = .ok (.iload 4, 2) := by decide +kernel
theorem dX0_priceOf_7 : decode cX0_priceOf 7 = .ok (.aload_n 1, 1) := by decide +kernel
theorem dX0_priceOf_8 : decode cX0_priceOf 8 = .ok (.arraylength, 1) := by decide +kernel
theorem dX0_priceOf_9 : decode cX0_priceOf 9 = .ok (.if_icmp .ge 27, 3) := by decide +kernel
theorem dX0_priceOf_12 : decode cX0_priceOf 12 = .ok (.iload_n 3, 1) := by decide +kernel
theorem dX0_priceOf_13 : decode cX0_priceOf 13 = .ok (.aload_n 0, 1) := by decide +kernel
theorem dX0_priceOf_14 : decode cX0_priceOf 14 = .ok (.aload_n 1, 1) := by decide +kernel
theorem dX0_priceOf_15 : decode cX0_priceOf 15 = .ok (.iload 4, 2) := by decide +kernel
theorem dX0_priceOf_17 : decode cX0_priceOf 17 = .ok (.iaload, 1) := by decide +kernel
theorem dX0_priceOf_18 : decode cX0_priceOf 18 = .ok (.iaload, 1) := by decide +kernel
theorem dX0_priceOf_19 : decode cX0_priceOf 19 = .ok (.iconst (-1), 1) := by decide +kernel
theorem dX0_priceOf_20 : decode cX0_priceOf 20 = .ok (.if_icmp .ne 7, 3) := by decide +kernel
theorem dX0_priceOf_23 : decode cX0_priceOf 23 = .ok (.iconst 2, 1) := by decide +kernel
theorem dX0_priceOf_24 : decode cX0_priceOf 24 = .ok (.goto 4, 3) := by decide +kernel
theorem dX0_priceOf_27 : decode cX0_priceOf 27 = .ok (.iconst 5, 1) := by decide +kernel
theorem dX0_priceOf_28 : decode cX0_priceOf 28 = .ok (.iadd, 1) := by decide +kernel
theorem dX0_priceOf_29 : decode cX0_priceOf 29 = .ok (.istore_n 3, 1) := by decide +kernel
theorem dX0_priceOf_30 : decode cX0_priceOf 30 = .ok (.iinc 4 1, 3) := by decide +kernel
theorem dX0_priceOf_33 : decode cX0_priceOf 33 = .ok (.goto (-28), 3) := by decide +kernel
theorem dX0_priceOf_36 : decode cX0_priceOf 36 = .ok (.iload_n 3, 1) := by decide +kernel
theorem dX0_priceOf_37 : decode cX0_priceOf 37 = .ok (.ireturn, 1) := by decide +kernel
set_option maxRecDepth 20000 in
theorem ggX0_tell_X1_sumOf : GoodIn wsX0_tell wsX1_sumOf := goodIn_r _ [8, 9, 17] (by decide +kernel) (by decide +kernel)
set_option maxRecDepth 20000 in
theorem gX0_tell_X1_sumOf : GoodIn wsX0_tell (wsV RX0 57 RX1 yX1_sumOf wsX1_sumOf) := goodIn_app (goodIn_of _ (by decide +kernel)) ggX0_tell_X1_sumOf
theorem dX0_tell_0 : decode cX0_tell 0 = .ok (.aload_n 0, 1) := by decide +kernel
theorem dX0_tell_1 : decode cX0_tell 1 = .ok (.getfield 30, 3) := by decide +kernel
theorem dX0_tell_4 : decode cX0_tell 4 = .ok (.iload_n 1, 1) := by decide +kernel
theorem dX0_tell_5 : decode cX0_tell 5 = .ok (.iaload, 1) := by decide +kernel
theorem dX0_tell_6 : decode cX0_tell 6 = .ok (.istore_n 3, 1) := by decide +kernel
theorem dX0_tell_7 : decode cX0_tell 7 = .ok (.iload_n 1, 1) := by decide +kernel
theorem dX0_tell_8 : decode cX0_tell 8 = .ok (.iconst 1, 1) := by decide +kernel
theorem dX0_tell_9 : decode cX0_tell 9 = .ok (.iadd, 1) := by decide +kernel
theorem dX0_tell_10 : decode cX0_tell 10 = .ok (.aload_n 0, 1) := by decide +kernel
theorem dX0_tell_11 : decode cX0_tell 11 = .ok (.getfield 30, 3) := by decide +kernel
theorem dX0_tell_14 : decode cX0_tell 14 = .ok (.arraylength, 1) := by decide +kernel
theorem dX0_tell_15 : decode cX0_tell 15 = .ok (.if_icmp .ge 14, 3) := by decide +kernel
theorem dX0_tell_18 : decode cX0_tell 18 = .ok (.aload_n 0, 1) := by decide +kernel
theorem dX0_tell_19 : decode cX0_tell 19 = .ok (.getfield 30, 3) := by decide +kernel
theorem dX0_tell_22 : decode cX0_tell 22 = .ok (.iload_n 1, 1) := by decide +kernel
theorem dX0_tell_23 : decode cX0_tell 23 = .ok (.iconst 1, 1) := by decide +kernel
theorem dX0_tell_24 : decode cX0_tell 24 = .ok (.iadd, 1) := by decide +kernel
theorem dX0_tell_25 : decode cX0_tell 25 = .ok (.iaload, 1) := by decide +kernel
theorem dX0_tell_26 : decode cX0_tell 26 = .ok (.goto 8, 3) := by decide +kernel
theorem dX0_tell_29 : decode cX0_tell 29 = .ok (.aload_n 0, 1) := by decide +kernel
theorem dX0_tell_30 : decode cX0_tell 30 = .ok (.getfield 22, 3) := by decide +kernel
theorem dX0_tell_33 : decode cX0_tell 33 = .ok (.arraylength, 1) := by decide +kernel
theorem dX0_tell_34 : decode cX0_tell 34 = .ok (.istore 4, 2) := by decide +kernel
theorem dX0_tell_36 : decode cX0_tell 36 = .ok (.aload_n 0, 1) := by decide +kernel
theorem dX0_tell_37 : decode cX0_tell 37 = .ok (.getfield 22, 3) := by decide +kernel
theorem dX0_tell_40 : decode cX0_tell 40 = .ok (.iload_n 3, 1) := by decide +kernel
theorem dX0_tell_41 : decode cX0_tell 41 = .ok (.iaload, 1) := by decide +kernel
theorem dX0_tell_42 : decode cX0_tell 42 = .ok (.iconst (-1), 1) := by decide +kernel
theorem dX0_tell_43 : decode cX0_tell 43 = .ok (.if_icmp .ne 7, 3) := by decide +kernel
theorem dX0_tell_46 : decode cX0_tell 46 = .ok (.iconst 1, 1) := by decide +kernel
theorem dX0_tell_47 : decode cX0_tell 47 = .ok (.goto 4, 3) := by decide +kernel
theorem dX0_tell_50 : decode cX0_tell 50 = .ok (.iconst 0, 1) := by decide +kernel
theorem dX0_tell_51 : decode cX0_tell 51 = .ok (.istore 5, 2) := by decide +kernel
theorem dX0_tell_53 : decode cX0_tell 53 = .ok (.iload_n 2, 1) := by decide +kernel
theorem dX0_tell_54 : decode cX0_tell 54 = .ok (.tableswitch 49 0 2 #[26, 37, 44], 26) := by decide +kernel
theorem dX0_tell_80 : decode cX0_tell 80 = .ok (.iload 5, 2) := by decide +kernel
theorem dX0_tell_82 : decode cX0_tell 82 = .ok (.ifCond .eq 7, 3) := by decide +kernel
theorem dX0_tell_85 : decode cX0_tell 85 = .ok (.iconst 1, 1) := by decide +kernel
theorem dX0_tell_86 : decode cX0_tell 86 = .ok (.goto 4, 3) := by decide +kernel
theorem dX0_tell_89 : decode cX0_tell 89 = .ok (.iconst 0, 1) := by decide +kernel
theorem dX0_tell_90 : decode cX0_tell 90 = .ok (.ireturn, 1) := by decide +kernel
theorem dX0_tell_91 : decode cX0_tell 91 = .ok (.aload_n 0, 1) := by decide +kernel
theorem dX0_tell_92 : decode cX0_tell 92 = .ok (.getfield 22, 3) := by decide +kernel
theorem dX0_tell_95 : decode cX0_tell 95 = .ok (.iload_n 3, 1) := by decide +kernel
theorem dX0_tell_96 : decode cX0_tell 96 = .ok (.iaload, 1) := by decide +kernel
theorem dX0_tell_97 : decode cX0_tell 97 = .ok (.ireturn, 1) := by decide +kernel
theorem dX0_tell_98 : decode cX0_tell 98 = .ok (.iload 4, 2) := by decide +kernel
theorem dX0_tell_100 : decode cX0_tell 100 = .ok (.iload_n 3, 1) := by decide +kernel
theorem dX0_tell_101 : decode cX0_tell 101 = .ok (.isub, 1) := by decide +kernel
theorem dX0_tell_102 : decode cX0_tell 102 = .ok (.ireturn, 1) := by decide +kernel
theorem dX0_tell_103 : decode cX0_tell 103 = .ok (.iload 5, 2) := by decide +kernel
theorem dX0_tell_105 : decode cX0_tell 105 = .ok (.ifCond .eq 18, 3) := by decide +kernel
theorem dX0_tell_108 : decode cX0_tell 108 = .ok (.aload_n 0, 1) := by decide +kernel
theorem dX0_tell_109 : decode cX0_tell 109 = .ok (.getfield 18, 3) := by decide +kernel
theorem dX0_tell_112 : decode cX0_tell 112 = .ok (.iload_n 3, 1) := by decide +kernel
theorem dX0_tell_113 : decode cX0_tell 113 = .ok (.iload 4, 2) := by decide +kernel
theorem dX0_tell_115 : decode cX0_tell 115 = .ok (.iload_n 3, 1) := by decide +kernel
theorem dX0_tell_116 : decode cX0_tell 116 = .ok (.isub, 1) := by decide +kernel
theorem dX0_tell_117 : decode cX0_tell 117 = .ok (.invokevirtual 57, 3) := by decide +kernel
theorem dX0_tell_120 : decode cX0_tell 120 = .ok (.goto 4, 3) := by decide +kernel
theorem dX0_tell_123 : decode cX0_tell 123 = .ok (.iconst (-1), 1) := by decide +kernel
theorem dX0_tell_124 : decode cX0_tell 124 = .ok (.ireturn, 1) := by decide +kernel
set_option maxRecDepth 20000 in
theorem ggX1_init_J7_copyOf_59c91 : GoodIn wsX1_init wsJ7_copyOf_59c91 := goodIn_r _ [8, 9, 10, 11, 12, 13, 14, 15, 16, 17, 18, 19, 20, 21, 22, 23] (by decide +kernel) (by decide +kernel)
set_option maxRecDepth 20000 in
theorem gX1_init_J7_copyOf_59c91 : GoodIn wsX1_init (va_wsS RX1 7 yJ7_copyOf_59c91 wsJ7_copyOf_59c91) := goodIn_app (goodIn_of _ (by decide +kernel)) ggX1_init_J7_copyOf_59c91
theorem dX1_init_0 : decode cX1_init 0 = .ok (.aload_n 0, 1) := by decide +kernel
theorem dX1_init_1 : decode cX1_init 1 = .ok (.invokespecial 1, 3) := by decide +kernel
theorem dX1_init_4 : decode cX1_init 4 = .ok (.aload_n 0, 1) := by decide +kernel
theorem dX1_init_5 : decode cX1_init 5 = .ok (.aload_n 1, 1) := by decide +kernel
theorem dX1_init_6 : decode cX1_init 6 = .ok (.iload_n 2, 1) := by decide +kernel
theorem dX1_init_7 : decode cX1_init 7 = .ok (.invokestatic 7, 3) := by decide +kernel
theorem dX1_init_10 : decode cX1_init 10 = .ok (.putfield 13, 3) := by decide +kernel
theorem dX1_init_13 : decode cX1_init 13 = .ok (.return_, 1) := by decide +kernel
set_option maxRecDepth 20000 in
theorem ggX1_hasBytesOf_X1_hasStretch : GoodIn wsX1_hasBytesOf wsX1_hasStretch := goodIn_r _ [6, 1, 7] (by decide +kernel) (by decide +kernel)
set_option maxRecDepth 20000 in
theorem gX1_hasBytesOf_X1_hasStretch : GoodIn wsX1_hasBytesOf (wsV RX1 19 RX1 yX1_hasStretch wsX1_hasStretch) := goodIn_app (goodIn_of _ (by decide +kernel)) ggX1_hasBytesOf_X1_hasStretch
theorem dX1_hasBytesOf_0 : decode cX1_hasBytesOf 0 = .ok (.aload_n 0, 1) := by decide +kernel
theorem dX1_hasBytesOf_1 : decode cX1_hasBytesOf 1 = .ok (.getfield 13, 3) := by decide +kernel
theorem dX1_hasBytesOf_4 : decode cX1_hasBytesOf 4 = .ok (.arraylength, 1) := by decide +kernel
theorem dX1_hasBytesOf_5 : decode cX1_hasBytesOf 5 = .ok (.aload_n 1, 1) := by decide +kernel
theorem dX1_hasBytesOf_6 : decode cX1_hasBytesOf 6 = .ok (.getfield 13, 3) := by decide +kernel
theorem dX1_hasBytesOf_9 : decode cX1_hasBytesOf 9 = .ok (.arraylength, 1) := by decide +kernel
theorem dX1_hasBytesOf_10 : decode cX1_hasBytesOf 10 = .ok (.if_icmp .ne 22, 3) := by decide +kernel
theorem dX1_hasBytesOf_13 : decode cX1_hasBytesOf 13 = .ok (.aload_n 0, 1) := by decide +kernel
theorem dX1_hasBytesOf_14 : decode cX1_hasBytesOf 14 = .ok (.iconst 0, 1) := by decide +kernel
theorem dX1_hasBytesOf_15 : decode cX1_hasBytesOf 15 = .ok (.aload_n 1, 1) := by decide +kernel
theorem dX1_hasBytesOf_16 : decode cX1_hasBytesOf 16 = .ok (.iconst 0, 1) := by decide +kernel
theorem dX1_hasBytesOf_17 : decode cX1_hasBytesOf 17 = .ok (.aload_n 0, 1) := by decide +kernel
theorem dX1_hasBytesOf_18 : decode cX1_hasBytesOf 18 = .ok (.getfield 13, 3) := by decide +kernel
theorem dX1_hasBytesOf_21 : decode cX1_hasBytesOf 21 = .ok (.arraylength, 1) := by decide +kernel
theorem dX1_hasBytesOf_22 : decode cX1_hasBytesOf 22 = .ok (.invokevirtual 19, 3) := by decide +kernel
theorem dX1_hasBytesOf_25 : decode cX1_hasBytesOf 25 = .ok (.ifCond .eq 7, 3) := by decide +kernel
theorem dX1_hasBytesOf_28 : decode cX1_hasBytesOf 28 = .ok (.iconst 1, 1) := by decide +kernel
theorem dX1_hasBytesOf_29 : decode cX1_hasBytesOf 29 = .ok (.goto 4, 3) := by decide +kernel
theorem dX1_hasBytesOf_32 : decode cX1_hasBytesOf 32 = .ok (.iconst 0, 1) := by decide +kernel
theorem dX1_hasBytesOf_33 : decode cX1_hasBytesOf 33 = .ok (.ireturn, 1) := by decide +kernel
theorem dX1_hasStretch_0 : decode cX1_hasStretch 0 = .ok (.iconst 0, 1) := by decide +kernel
theorem dX1_hasStretch_1 : decode cX1_hasStretch 1 = .ok (.istore 5, 2) := by decide +kernel
theorem dX1_hasStretch_3 : decode cX1_hasStretch 3 = .ok (.iload 5, 2) := by decide +kernel
theorem dX1_hasStretch_5 : decode cX1_hasStretch 5 = .ok (.iload 4, 2) := by decide +kernel
theorem dX1_hasStretch_7 : decode cX1_hasStretch 7 = .ok (.if_icmp .ge 32, 3) := by decide +kernel
theorem dX1_hasStretch_10 : decode cX1_hasStretch 10 = .ok (.aload_n 0, 1) := by decide +kernel
theorem dX1_hasStretch_11 : decode cX1_hasStretch 11 = .ok (.getfield 13, 3) := by decide +kernel
theorem dX1_hasStretch_14 : decode cX1_hasStretch 14 = .ok (.iload_n 1, 1) := by decide +kernel
theorem dX1_hasStretch_15 : decode cX1_hasStretch 15 = .ok (.iload 5, 2) := by decide +kernel
theorem dX1_hasStretch_17 : decode cX1_hasStretch 17 = .ok (.iadd, 1) := by decide +kernel
theorem dX1_hasStretch_18 : decode cX1_hasStretch 18 = .ok (.iaload, 1) := by decide +kernel
theorem dX1_hasStretch_19 : decode cX1_hasStretch 19 = .ok (.aload_n 2, 1) := by decide +kernel
theorem dX1_hasStretch_20 : decode cX1_hasStretch 20 = .ok (.getfield 13, 3) := by decide +kernel
theorem dX1_hasStretch_23 : decode cX1_hasStretch 23 = .ok (.iload_n 3, 1) := by decide +kernel
theorem dX1_hasStretch_24 : decode cX1_hasStretch 24 = .ok (.iload 5, 2) := by decide +kernel
theorem dX1_hasStretch_26 : decode cX1_hasStretch 26 = .ok (.iadd, 1) := by decide +kernel
theorem dX1_hasStretch_27 : decode cX1_hasStretch 27 = .ok (.iaload, 1) := by decide +kernel
theorem dX1_hasStretch_28 : decode cX1_hasStretch 28 = .ok (.if_icmp .eq 5, 3) := by decide +kernel
theorem dX1_hasStretch_31 : decode cX1_hasStretch 31 = .ok (.iconst 0, 1) := by decide +kernel
theorem dX1_hasStretch_32 : decode cX1_hasStretch 32 = .ok (.ireturn, 1) := by decide +kernel
theorem dX1_hasStretch_33 : decode cX1_hasStretch 33 = .ok (.iinc 5 1, 3) := by decide +kernel
theorem dX1_hasStretch_36 : decode cX1_hasStretch 36 = .ok (.goto (-33), 3) := by decide +kernel
theorem dX1_hasStretch_39 : decode cX1_hasStretch 39 = .ok (.iconst 1, 1) := by decide +kernel
theorem dX1_hasStretch_40 : decode cX1_hasStretch 40 = .ok (.ireturn, 1) := by decide +kernel
theorem dX1_sumOf_0 : decode cX1_sumOf 0 = .ok (.iconst 0, 1) := by decide +kernel
theorem dX1_sumOf_1 : decode cX1_sumOf 1 = .ok (.istore_n 3, 1) := by decide +kernel
theorem dX1_sumOf_2 : decode cX1_sumOf 2 = .ok (.iconst 0, 1) := by decide +kernel
theorem dX1_sumOf_3 : decode cX1_sumOf 3 = .ok (.istore 4, 2) := by decide +kernel
theorem dX1_sumOf_5 : decode cX1_sumOf 5 = .ok (.iconst 0, 1) := by decide +kernel
theorem dX1_sumOf_6 : decode cX1_sumOf 6 = .ok (.istore 5, 2) := by decide +kernel
theorem dX1_sumOf_8 : decode cX1_sumOf 8 = .ok (.iload 5, 2) := by decide +kernel
theorem dX1_sumOf_10 : decode cX1_sumOf 10 = .ok (.iload_n 2, 1) := by decide +kernel
theorem dX1_sumOf_11 : decode cX1_sumOf 11 = .ok (.if_icmp .ge 40, 3) := by decide +kernel
theorem dX1_sumOf_14 : decode cX1_sumOf 14 = .ok (.iload_n 3, 1) := by decide +kernel
theorem dX1_sumOf_15 : decode cX1_sumOf 15 = .ok (.aload_n 0, 1) := by decide +kernel
theorem dX1_sumOf_16 : decode cX1_sumOf 16 = .ok (.getfield 13, 3) := by decide +kernel
theorem dX1_sumOf_19 : decode cX1_sumOf 19 = .ok (.iload_n 1, 1) := by decide +kernel
theorem dX1_sumOf_20 : decode cX1_sumOf 20 = .ok (.iload 5, 2) := by decide +kernel
theorem dX1_sumOf_22 : decode cX1_sumOf 22 = .ok (.iadd, 1) := by decide +kernel
theorem dX1_sumOf_23 : decode cX1_sumOf 23 = .ok (.iaload, 1) := by decide +kernel
theorem dX1_sumOf_24 : decode cX1_sumOf 24 = .ok (.iadd, 1) := by decide +kernel
theorem dX1_sumOf_25 : decode cX1_sumOf 25 = .ok (.istore_n 3, 1) := by decide +kernel
theorem dX1_sumOf_26 : decode cX1_sumOf 26 = .ok (.iload 4, 2) := by decide +kernel
theorem dX1_sumOf_28 : decode cX1_sumOf 28 = .ok (.iload_n 2, 1) := by decide +kernel
theorem dX1_sumOf_29 : decode cX1_sumOf 29 = .ok (.iload 5, 2) := by decide +kernel
theorem dX1_sumOf_31 : decode cX1_sumOf 31 = .ok (.isub, 1) := by decide +kernel
theorem dX1_sumOf_32 : decode cX1_sumOf 32 = .ok (.aload_n 0, 1) := by decide +kernel
theorem dX1_sumOf_33 : decode cX1_sumOf 33 = .ok (.getfield 13, 3) := by decide +kernel
theorem dX1_sumOf_36 : decode cX1_sumOf 36 = .ok (.iload_n 1, 1) := by decide +kernel
theorem dX1_sumOf_37 : decode cX1_sumOf 37 = .ok (.iload 5, 2) := by decide +kernel
theorem dX1_sumOf_39 : decode cX1_sumOf 39 = .ok (.iadd, 1) := by decide +kernel
theorem dX1_sumOf_40 : decode cX1_sumOf 40 = .ok (.iaload, 1) := by decide +kernel
theorem dX1_sumOf_41 : decode cX1_sumOf 41 = .ok (.imul, 1) := by decide +kernel
theorem dX1_sumOf_42 : decode cX1_sumOf 42 = .ok (.iadd, 1) := by decide +kernel
theorem dX1_sumOf_43 : decode cX1_sumOf 43 = .ok (.istore 4, 2) := by decide +kernel
theorem dX1_sumOf_45 : decode cX1_sumOf 45 = .ok (.iinc 5 1, 3) := by decide +kernel
theorem dX1_sumOf_48 : decode cX1_sumOf 48 = .ok (.goto (-40), 3) := by decide +kernel
theorem dX1_sumOf_51 : decode cX1_sumOf 51 = .ok (.iload_n 3, 1) := by decide +kernel
theorem dX1_sumOf_52 : decode cX1_sumOf 52 = .ok (.sipush 256, 3) := by decide +kernel
theorem dX1_sumOf_55 : decode cX1_sumOf 55 = .ok (.irem, 1) := by decide +kernel
theorem dX1_sumOf_56 : decode cX1_sumOf 56 = .ok (.sipush 256, 3) := by decide +kernel
theorem dX1_sumOf_59 : decode cX1_sumOf 59 = .ok (.iload 4, 2) := by decide +kernel
theorem dX1_sumOf_61 : decode cX1_sumOf 61 = .ok (.sipush 256, 3) := by decide +kernel
theorem dX1_sumOf_64 : decode cX1_sumOf 64 = .ok (.irem, 1) := by decide +kernel
theorem dX1_sumOf_65 : decode cX1_sumOf 65 = .ok (.imul, 1) := by decide +kernel
theorem dX1_sumOf_66 : decode cX1_sumOf 66 = .ok (.iadd, 1) := by decide +kernel
theorem dX1_sumOf_67 : decode cX1_sumOf 67 = .ok (.ireturn, 1) := by decide +kernel
set_option maxRecDepth 20000 in
theorem ggX2_init_Jx4a65c_init_da8c8 : GoodIn wsX2_init wsJx4a65c_init_da8c8 := goodIn_r _ [21, 22, 23, 24, 25, 26, 27, 28, 29, 30, 31, 32, 33, 2, 3, 65, 66, 67] (by decide +kernel) (by decide +kernel)
set_option maxRecDepth 20000 in
theorem gX2_init_Jx4a65c_init_da8c8 : GoodIn wsX2_init (wsJx4a65c_init_da8c8) := ggX2_init_Jx4a65c_init_da8c8
set_option maxRecDepth 20000 in
theorem ggX2_init_X1_init : GoodIn wsX2_init wsX1_init := goodIn_r _ [36, 37, 2, 3, 38, 39, 40, 41, 42, 43, 44, 45, 46, 47, 48, 4, 49, 50, 51, 52, 53, 54, 55, 56, 68] (by decide +kernel) (by decide +kernel)
set_option maxRecDepth 20000 in
theorem gX2_init_X1_init : GoodIn wsX2_init (wsX1_init) := ggX2_init_X1_init
theorem dX2_init_0 : decode cX2_init 0 = .ok (.aload_n 0, 1) := by decide +kernel
theorem dX2_init_1 : decode cX2_init 1 = .ok (.invokespecial 1, 3) := by decide +kernel
theorem dX2_init_4 : decode cX2_init 4 = .ok (.aload_n 0, 1) := by decide +kernel
theorem dX2_init_5 : decode cX2_init 5 = .ok (.sipush 400, 3) := by decide +kernel
theorem dX2_init_8 : decode cX2_init 8 = .ok (.newarray .int, 2) := by decide +kernel
theorem dX2_init_10 : decode cX2_init 10 = .ok (.putfield 9, 3) := by decide +kernel
theorem dX2_init_13 : decode cX2_init 13 = .ok (.aload_n 0, 1) := by decide +kernel
theorem dX2_init_14 : decode cX2_init 14 = .ok (.iconst 0, 1) := by decide +kernel
theorem dX2_init_15 : decode cX2_init 15 = .ok (.putfield 13, 3) := by decide +kernel
theorem dX2_init_18 : decode cX2_init 18 = .ok (.aload_n 0, 1) := by decide +kernel
theorem dX2_init_19 : decode cX2_init 19 = .ok (.new 17, 3) := by decide +kernel
theorem dX2_init_22 : decode cX2_init 22 = .ok (.dup, 1) := by decide +kernel
theorem dX2_init_23 : decode cX2_init 23 = .ok (.invokespecial 19, 3) := by decide +kernel
theorem dX2_init_26 : decode cX2_init 26 = .ok (.putfield 20, 3) := by decide +kernel
theorem dX2_init_29 : decode cX2_init 29 = .ok (.aload_n 0, 1) := by decide +kernel
theorem dX2_init_30 : decode cX2_init 30 = .ok (.new 17, 3) := by decide +kernel
theorem dX2_init_33 : decode cX2_init 33 = .ok (.dup, 1) := by decide +kernel
theorem dX2_init_34 : decode cX2_init 34 = .ok (.invokespecial 19, 3) := by decide +kernel
theorem dX2_init_37 : decode cX2_init 37 = .ok (.putfield 24, 3) := by decide +kernel
theorem dX2_init_40 : decode cX2_init 40 = .ok (.aload_n 0, 1) := by decide +kernel
theorem dX2_init_41 : decode cX2_init 41 = .ok (.new 27, 3) := by decide +kernel
theorem dX2_init_44 : decode cX2_init 44 = .ok (.dup, 1) := by decide +kernel
theorem dX2_init_45 : decode cX2_init 45 = .ok (.aload_n 0, 1) := by decide +kernel
theorem dX2_init_46 : decode cX2_init 46 = .ok (.getfield 9, 3) := by decide +kernel
theorem dX2_init_49 : decode cX2_init 49 = .ok (.iconst 0, 1) := by decide +kernel
theorem dX2_init_50 : decode cX2_init 50 = .ok (.invokespecial 29, 3) := by decide +kernel
theorem dX2_init_53 : decode cX2_init 53 = .ok (.putfield 32, 3) := by decide +kernel
theorem dX2_init_56 : decode cX2_init 56 = .ok (.aload_n 0, 1) := by decide +kernel
theorem dX2_init_57 : decode cX2_init 57 = .ok (.new 17, 3) := by decide +kernel
theorem dX2_init_60 : decode cX2_init 60 = .ok (.dup, 1) := by decide +kernel
theorem dX2_init_61 : decode cX2_init 61 = .ok (.invokespecial 19, 3) := by decide +kernel
theorem dX2_init_64 : decode cX2_init 64 = .ok (.putfield 36, 3) := by decide +kernel
theorem dX2_init_67 : decode cX2_init 67 = .ok (.aload_n 0, 1) := by decide +kernel
theorem dX2_init_68 : decode cX2_init 68 = .ok (.sipush 200, 3) := by decide +kernel
theorem dX2_init_71 : decode cX2_init 71 = .ok (.newarray .int, 2) := by decide +kernel
theorem dX2_init_73 : decode cX2_init 73 = .ok (.putfield 39, 3) := by decide +kernel
theorem dX2_init_76 : decode cX2_init 76 = .ok (.aload_n 0, 1) := by decide +kernel
theorem dX2_init_77 : decode cX2_init 77 = .ok (.bipush 12, 2) := by decide +kernel
theorem dX2_init_79 : decode cX2_init 79 = .ok (.newarray .int, 2) := by decide +kernel
theorem dX2_init_81 : decode cX2_init 81 = .ok (.putfield 42, 3) := by decide +kernel
theorem dX2_init_84 : decode cX2_init 84 = .ok (.return_, 1) := by decide +kernel
theorem dX2_feed_0 : decode cX2_feed 0 = .ok (.iload_n 3, 1) := by decide +kernel
theorem dX2_feed_1 : decode cX2_feed 1 = .ok (.iconst 1, 1) := by decide +kernel
theorem dX2_feed_2 : decode cX2_feed 2 = .ok (.if_icmp .lt 9, 3) := by decide +kernel
theorem dX2_feed_5 : decode cX2_feed 5 = .ok (.iload_n 3, 1) := by decide +kernel
theorem dX2_feed_6 : decode cX2_feed 6 = .ok (.bipush 8, 2) := by decide +kernel
theorem dX2_feed_8 : decode cX2_feed 8 = .ok (.if_icmp .le 13, 3) := by decide +kernel
theorem dX2_feed_11 : decode cX2_feed 11 = .ok (.new 45, 3) := by decide +kernel
theorem dX2_feed_14 : decode cX2_feed 14 = .ok (.dup, 1) := by decide +kernel
theorem dX2_feed_15 : decode cX2_feed 15 = .ok (.ldc 47, 2) := by decide +kernel
theorem dX2_feed_17 : decode cX2_feed 17 = .ok (.invokespecial 49, 3) := by decide +kernel
theorem dX2_feed_20 : decode cX2_feed 20 = .ok (.athrow, 1) := by decide +kernel
theorem dX2_feed_21 : decode cX2_feed 21 = .ok (.aload_n 0, 1) := by decide +kernel
theorem dX2_feed_22 : decode cX2_feed 22 = .ok (.getfield 13, 3) := by decide +kernel
theorem dX2_feed_25 : decode cX2_feed 25 = .ok (.iload_n 3, 1) := by decide +kernel
theorem dX2_feed_26 : decode cX2_feed 26 = .ok (.iadd, 1) := by decide +kernel
theorem dX2_feed_27 : decode cX2_feed 27 = .ok (.sipush 400, 3) := by decide +kernel
theorem dX2_feed_30 : decode cX2_feed 30 = .ok (.if_icmp .le 13, 3) := by decide +kernel
theorem dX2_feed_33 : decode cX2_feed 33 = .ok (.new 52, 3) := by decide +kernel
theorem dX2_feed_36 : decode cX2_feed 36 = .ok (.dup, 1) := by decide +kernel
theorem dX2_feed_37 : decode cX2_feed 37 = .ok (.ldc 54, 2) := by decide +kernel
theorem dX2_feed_39 : decode cX2_feed 39 = .ok (.invokespecial 56, 3) := by decide +kernel
theorem dX2_feed_42 : decode cX2_feed 42 = .ok (.athrow, 1) := by decide +kernel
theorem dX2_feed_43 : decode cX2_feed 43 = .ok (.iconst 0, 1) := by decide +kernel
theorem dX2_feed_44 : decode cX2_feed 44 = .ok (.istore 4, 2) := by decide +kernel
theorem dX2_feed_46 : decode cX2_feed 46 = .ok (.iload 4, 2) := by decide +kernel
theorem dX2_feed_48 : decode cX2_feed 48 = .ok (.iload_n 3, 1) := by decide +kernel
theorem dX2_feed_49 : decode cX2_feed 49 = .ok (.if_icmp .ge 37, 3) := by decide +kernel
theorem dX2_feed_52 : decode cX2_feed 52 = .ok (.aload_n 0, 1) := by decide +kernel
theorem dX2_feed_53 : decode cX2_feed 53 = .ok (.getfield 9, 3) := by decide +kernel
theorem dX2_feed_56 : decode cX2_feed 56 = .ok (.aload_n 0, 1) := by decide +kernel
theorem dX2_feed_57 : decode cX2_feed 57 = .ok (.getfield 13, 3) := by decide +kernel
theorem dX2_feed_60 : decode cX2_feed 60 = .ok (.iload 4, 2) := by decide +kernel
theorem dX2_feed_62 : decode cX2_feed 62 = .ok (.iadd, 1) := by decide +kernel
theorem dX2_feed_63 : decode cX2_feed 63 = .ok (.lload_n 1, 1) := by decide +kernel
theorem dX2_feed_64 : decode cX2_feed 64 = .ok (.bipush 8, 2) := by decide +kernel
theorem dX2_feed_66 : decode cX2_feed 66 = .ok (.iload_n 3, 1) := by decide +kernel
theorem dX2_feed_67 : decode cX2_feed 67 = .ok (.iconst 1, 1) := by decide +kernel
theorem dX2_feed_68 : decode cX2_feed 68 = .ok (.isub, 1) := by decide +kernel
theorem dX2_feed_69 : decode cX2_feed 69 = .ok (.iload 4, 2) := by decide +kernel
theorem dX2_feed_71 : decode cX2_feed 71 = .ok (.isub, 1) := by decide +kernel
theorem dX2_feed_72 : decode cX2_feed 72 = .ok (.imul, 1) := by decide +kernel
theorem dX2_feed_73 : decode cX2_feed 73 = .ok (.lushr, 1) := by decide +kernel
theorem dX2_feed_74 : decode cX2_feed 74 = .ok (.l2i, 1) := by decide +kernel
theorem dX2_feed_75 : decode cX2_feed 75 = .ok (.sipush 255, 3) := by decide +kernel
theorem dX2_feed_78 : decode cX2_feed 78 = .ok (.iand, 1) := by decide +kernel
theorem dX2_feed_79 : decode cX2_feed 79 = .ok (.iastore, 1) := by decide +kernel
theorem dX2_feed_80 : decode cX2_feed 80 = .ok (.iinc 4 1, 3) := by decide +kernel
theorem dX2_feed_83 : decode cX2_feed 83 = .ok (.goto (-37), 3) := by decide +kernel
theorem dX2_feed_86 : decode cX2_feed 86 = .ok (.aload_n 0, 1) := by decide +kernel
theorem dX2_feed_87 : decode cX2_feed 87 = .ok (.dup, 1) := by decide +kernel
theorem dX2_feed_88 : decode cX2_feed 88 = .ok (.getfield 13, 3) := by decide +kernel
theorem dX2_feed_91 : decode cX2_feed 91 = .ok (.iload_n 3, 1) := by decide +kernel
theorem dX2_feed_92 : decode cX2_feed 92 = .ok (.iadd, 1) := by decide +kernel
theorem dX2_feed_93 : decode cX2_feed 93 = .ok (.putfield 13, 3) := by decide +kernel
theorem dX2_feed_96 : decode cX2_feed 96 = .ok (.aload_n 0, 1) := by decide +kernel
theorem dX2_feed_97 : decode cX2_feed 97 = .ok (.getfield 13, 3) := by decide +kernel
theorem dX2_feed_100 : decode cX2_feed 100 = .ok (.ireturn, 1) := by decide +kernel
set_option maxRecDepth 20000 in
theorem ggX2_store_X2_checkRoomForVersion : GoodIn wsX2_store wsX2_checkRoomForVersion := goodIn_ca (goodIn_r _ [11, 12, 13, 1, 14, 15, 16, 17, 18, 19, 91, 92, 93, 94, 95, 96, 97, 98, 100, 101, 102] (by decide +kernel) (by decide +kernel)) (goodIn_sub (fun _ h => List.mem_cons_of_mem _ (List.mem_append_right _ h)) (by decide +kernel))
set_option maxRecDepth 20000 in
theorem gX2_store_X2_checkRoomForVersion : GoodIn wsX2_store (wsV RX2 57 RX2 yX2_checkRoomForVersion wsX2_checkRoomForVersion) := goodIn_app (goodIn_of _ (by decide +kernel)) ggX2_store_X2_checkRoomForVersion
set_option maxRecDepth 20000 in
theorem ggX2_store_X1_init : GoodIn wsX2_store wsX1_init := goodIn_r _ [22, 23, 24, 25, 26, 27, 28, 29, 30, 31, 32, 33, 34, 35, 36, 37, 38, 39, 40, 41, 42, 43, 44, 45, 99] (by decide +kernel) (by decide +kernel)
set_option maxRecDepth 20000 in
theorem gX2_store_X1_init : GoodIn wsX2_store (wsX1_init) := ggX2_store_X1_init
set_option maxRecDepth 20000 in
theorem ggX2_store_Jx4a65c_add_9ea2d : GoodIn wsX2_store wsJx4a65c_add_9ea2d := goodIn_r _ [49, 50, 51, 52, 19, 53, 54, 55, 17, 56, 57, 58, 59, 60, 61, 62, 63, 64, 65, 66, 67, 40, 68, 69, 70, 71, 72, 73, 74, 75, 76, 77, 78, 79, 80, 29, 81, 82, 83, 84, 85, 86, 87, 88, 89, 90, 38, 39, 41, 42, 43, 44, 45, 100, 101, 102] (by decide +kernel) (by decide +kernel)
set_option maxRecDepth 20000 in
theorem gX2_store_Jx4a65c_add_9ea2d : GoodIn wsX2_store (wsV RX2 60 RJx4a65c yJx4a65c_add_9ea2d wsJx4a65c_add_9ea2d) := goodIn_app (goodIn_of _ (by decide +kernel)) ggX2_store_Jx4a65c_add_9ea2d
set_option maxRecDepth 20000 in
theorem ggX2_store_Jx4a65c_size_8abf5 : GoodIn wsX2_store wsJx4a65c_size_8abf5 := goodIn_r _ [18, 19, 100, 101, 102] (by decide +kernel) (by decide +kernel)
set_option maxRecDepth 20000 in
theorem gX2_store_Jx4a65c_size_8abf5 : GoodIn wsX2_store (wsV RX2 64 RJx4a65c yJx4a65c_size_8abf5 wsJx4a65c_size_8abf5) := goodIn_app (goodIn_of _ (by decide +kernel)) ggX2_store_Jx4a65c_size_8abf5
theorem dX2_store_0 : decode cX2_store 0 = .ok (.aload_n 0, 1) := by decide +kernel
theorem dX2_store_1 : decode cX2_store 1 = .ok (.invokevirtual 57, 3) := by decide +kernel
theorem dX2_store_4 : decode cX2_store 4 = .ok (.aload_n 0, 1) := by decide +kernel
theorem dX2_store_5 : decode cX2_store 5 = .ok (.getfield 20, 3) := by decide +kernel
theorem dX2_store_8 : decode cX2_store 8 = .ok (.new 27, 3) := by decide +kernel
theorem dX2_store_11 : decode cX2_store 11 = .ok (.dup, 1) := by decide +kernel
theorem dX2_store_12 : decode cX2_store 12 = .ok (.aload_n 0, 1) := by decide +kernel
theorem dX2_store_13 : decode cX2_store 13 = .ok (.getfield 9, 3) := by decide +kernel
theorem dX2_store_16 : decode cX2_store 16 = .ok (.aload_n 0, 1) := by decide +kernel
theorem dX2_store_17 : decode cX2_store 17 = .ok (.getfield 13, 3) := by decide +kernel
theorem dX2_store_20 : decode cX2_store 20 = .ok (.invokespecial 29, 3) := by decide +kernel
theorem dX2_store_23 : decode cX2_store 23 = .ok (.invokevirtual 60, 3) := by decide +kernel
theorem dX2_store_26 : decode cX2_store 26 = .ok (.pop, 1) := by decide +kernel
theorem dX2_store_27 : decode cX2_store 27 = .ok (.aload_n 0, 1) := by decide +kernel
theorem dX2_store_28 : decode cX2_store 28 = .ok (.iconst 0, 1) := by decide +kernel
theorem dX2_store_29 : decode cX2_store 29 = .ok (.putfield 13, 3) := by decide +kernel
theorem dX2_store_32 : decode cX2_store 32 = .ok (.aload_n 0, 1) := by decide +kernel
theorem dX2_store_33 : decode cX2_store 33 = .ok (.getfield 20, 3) := by decide +kernel
theorem dX2_store_36 : decode cX2_store 36 = .ok (.invokevirtual 64, 3) := by decide +kernel
theorem dX2_store_39 : decode cX2_store 39 = .ok (.iconst 1, 1) := by decide +kernel
theorem dX2_store_40 : decode cX2_store 40 = .ok (.isub, 1) := by decide +kernel
theorem dX2_store_41 : decode cX2_store 41 = .ok (.ireturn, 1) := by decide +kernel
set_option maxRecDepth 20000 in
theorem ggX2_versions_Jx4a65c_size_8abf5 : GoodIn wsX2_versions wsJx4a65c_size_8abf5 := goodIn_r _ [6, 7, 16, 17, 18] (by decide +kernel) (by decide +kernel)
set_option maxRecDepth 20000 in
theorem gX2_versions_Jx4a65c_size_8abf5 : GoodIn wsX2_versions (wsV RX2 64 RJx4a65c yJx4a65c_size_8abf5 wsJx4a65c_size_8abf5) := goodIn_app (goodIn_of _ (by decide +kernel)) ggX2_versions_Jx4a65c_size_8abf5
theorem dX2_versions_0 : decode cX2_versions 0 = .ok (.aload_n 0, 1) := by decide +kernel
theorem dX2_versions_1 : decode cX2_versions 1 = .ok (.getfield 20, 3) := by decide +kernel
theorem dX2_versions_4 : decode cX2_versions 4 = .ok (.invokevirtual 64, 3) := by decide +kernel
theorem dX2_versions_7 : decode cX2_versions 7 = .ok (.ireturn, 1) := by decide +kernel
set_option maxRecDepth 20000 in
theorem ggX2_length_X2_rowOf : GoodIn wsX2_length wsX2_rowOf := goodIn_ca (goodIn_r _ [6, 7, 8, 9, 10, 11, 12, 13, 14, 15, 16, 17, 18, 19, 20, 21, 22, 23, 24, 25, 26, 27, 28, 29, 30, 31, 32, 33, 35, 36, 37, 38, 39, 40, 41, 42, 43, 44, 45] (by decide +kernel) (by decide +kernel)) (goodIn_sub (fun _ h => List.mem_cons_of_mem _ (List.mem_append_right _ h)) (by decide +kernel))
set_option maxRecDepth 20000 in
theorem gX2_length_X2_rowOf : GoodIn wsX2_length (wsV RX2 68 RX2 yX2_rowOf wsX2_rowOf) := goodIn_app (goodIn_of _ (by decide +kernel)) ggX2_length_X2_rowOf
theorem dX2_length_0 : decode cX2_length 0 = .ok (.aload_n 0, 1) := by decide +kernel
theorem dX2_length_1 : decode cX2_length 1 = .ok (.iload_n 1, 1) := by decide +kernel
theorem dX2_length_2 : decode cX2_length 2 = .ok (.invokevirtual 68, 3) := by decide +kernel
theorem dX2_length_5 : decode cX2_length 5 = .ok (.getfield 72, 3) := by decide +kernel
theorem dX2_length_8 : decode cX2_length 8 = .ok (.arraylength, 1) := by decide +kernel
theorem dX2_length_9 : decode cX2_length 9 = .ok (.ireturn, 1) := by decide +kernel
set_option maxRecDepth 20000 in
theorem ggX2_byteAt_X2_rowOf : GoodIn wsX2_byteAt wsX2_rowOf := goodIn_ca (goodIn_r _ [8, 1, 2, 9, 10, 11, 12, 13, 14, 15, 16, 17, 18, 19, 20, 21, 22, 23, 24, 25, 26, 27, 28, 29, 30, 31, 32, 33, 35, 36, 37, 38, 39, 40, 41, 42, 43, 44, 45] (by decide +kernel) (by decide +kernel)) (goodIn_sub (fun _ h => List.mem_cons_of_mem _ (List.mem_append_right _ h)) (by decide +kernel))
set_option maxRecDepth 20000 in
theorem gX2_byteAt_X2_rowOf : GoodIn wsX2_byteAt (wsV RX2 68 RX2 yX2_rowOf wsX2_rowOf) := goodIn_app (goodIn_of _ (by decide +kernel)) ggX2_byteAt_X2_rowOf
theorem dX2_byteAt_0 : decode cX2_byteAt 0 = .ok (.aload_n 0, 1) := by decide +kernel
theorem dX2_byteAt_1 : decode cX2_byteAt 1 = .ok (.iload_n 1, 1) := by decide +kernel
theorem dX2_byteAt_2 : decode cX2_byteAt 2 = .ok (.invokevirtual 68, 3) := by decide +kernel
theorem dX2_byteAt_5 : decode cX2_byteAt 5 = .ok (.astore_n 3, 1) := by decide +kernel
theorem dX2_byteAt_6 : decode cX2_byteAt 6 = .ok (.iload_n 2, 1) := by decide +kernel
theorem dX2_byteAt_7 : decode cX2_byteAt 7 = .ok (.ifCond .lt 12, 3) := by decide +kernel
theorem dX2_byteAt_10 : decode cX2_byteAt 10 = .ok (.iload_n 2, 1) := by decide +kernel
theorem dX2_byteAt_11 : decode cX2_byteAt 11 = .ok (.aload_n 3, 1) := by decide +kernel
theorem dX2_byteAt_12 : decode cX2_byteAt 12 = .ok (.getfield 72, 3) := by decide +kernel
theorem dX2_byteAt_15 : decode cX2_byteAt 15 = .ok (.arraylength, 1) := by decide +kernel
theorem dX2_byteAt_16 : decode cX2_byteAt 16 = .ok (.if_icmp .lt 13, 3) := by decide +kernel
theorem dX2_byteAt_19 : decode cX2_byteAt 19 = .ok (.new 75, 3) := by decide +kernel
theorem dX2_byteAt_22 : decode cX2_byteAt 22 = .ok (.dup, 1) := by decide +kernel
theorem dX2_byteAt_23 : decode cX2_byteAt 23 = .ok (.ldc 77, 2) := by decide +kernel
theorem dX2_byteAt_25 : decode cX2_byteAt 25 = .ok (.invokespecial 79, 3) := by decide +kernel
theorem dX2_byteAt_28 : decode cX2_byteAt 28 = .ok (.athrow, 1) := by decide +kernel
theorem dX2_byteAt_29 : decode cX2_byteAt 29 = .ok (.aload_n 3, 1) := by decide +kernel
theorem dX2_byteAt_30 : decode cX2_byteAt 30 = .ok (.getfield 72, 3) := by decide +kernel
theorem dX2_byteAt_33 : decode cX2_byteAt 33 = .ok (.iload_n 2, 1) := by decide +kernel
theorem dX2_byteAt_34 : decode cX2_byteAt 34 = .ok (.iaload, 1) := by decide +kernel
theorem dX2_byteAt_35 : decode cX2_byteAt 35 = .ok (.ireturn, 1) := by decide +kernel
set_option maxRecDepth 20000 in
theorem ggX2_areSame_X2_rowOf : GoodIn wsX2_areSame wsX2_rowOf := goodIn_ca (goodIn_r _ [5, 6, 7, 8, 9, 10, 11, 12, 13, 14, 15, 16, 17, 18, 19, 20, 21, 22, 23, 24, 25, 26, 27, 28, 29, 30, 31, 32, 43, 44, 45, 46, 47, 48, 49, 50, 51, 52, 53] (by decide +kernel) (by decide +kernel)) (goodIn_sub (fun _ h => List.mem_cons_of_mem _ (List.mem_append_right _ h)) (by decide +kernel))
set_option maxRecDepth 20000 in
theorem gX2_areSame_X2_rowOf : GoodIn wsX2_areSame (wsV RX2 68 RX2 yX2_rowOf wsX2_rowOf) := goodIn_app (goodIn_of _ (by decide +kernel)) ggX2_areSame_X2_rowOf
set_option maxRecDepth 20000 in
theorem ggX2_areSame_X1_hasBytesOf : GoodIn wsX2_areSame wsX1_hasBytesOf := goodIn_r _ [37, 38, 39, 40, 41, 36, 42, 54] (by decide +kernel) (by decide +kernel)
set_option maxRecDepth 20000 in
theorem gX2_areSame_X1_hasBytesOf : GoodIn wsX2_areSame (wsV RX2 80 RX1 yX1_hasBytesOf wsX1_hasBytesOf) := goodIn_app (goodIn_of _ (by decide +kernel)) ggX2_areSame_X1_hasBytesOf
theorem dX2_areSame_0 : decode cX2_areSame 0 = .ok (.aload_n 0, 1) := by decide +kernel
theorem dX2_areSame_1 : decode cX2_areSame 1 = .ok (.iload_n 1, 1) := by decide +kernel
theorem dX2_areSame_2 : decode cX2_areSame 2 = .ok (.invokevirtual 68, 3) := by decide +kernel
theorem dX2_areSame_5 : decode cX2_areSame 5 = .ok (.aload_n 0, 1) := by decide +kernel
theorem dX2_areSame_6 : decode cX2_areSame 6 = .ok (.iload_n 2, 1) := by decide +kernel
theorem dX2_areSame_7 : decode cX2_areSame 7 = .ok (.invokevirtual 68, 3) := by decide +kernel
theorem dX2_areSame_10 : decode cX2_areSame 10 = .ok (.invokevirtual 80, 3) := by decide +kernel
theorem dX2_areSame_13 : decode cX2_areSame 13 = .ok (.ireturn, 1) := by decide +kernel
set_option maxRecDepth 20000 in
theorem ggX2_weakSum_X2_rowOf : GoodIn wsX2_weakSum wsX2_rowOf := goodIn_ca (goodIn_r _ [8, 9, 10, 11, 12, 13, 14, 15, 16, 17, 18, 19, 20, 21, 22, 23, 24, 25, 26, 27, 28, 29, 30, 31, 32, 33, 34, 35, 43, 44, 45, 46, 47, 48, 49, 50, 51, 52, 53] (by decide +kernel) (by decide +kernel)) (goodIn_sub (fun _ h => List.mem_cons_of_mem _ (List.mem_append_right _ h)) (by decide +kernel))
set_option maxRecDepth 20000 in
theorem gX2_weakSum_X2_rowOf : GoodIn wsX2_weakSum (wsV RX2 68 RX2 yX2_rowOf wsX2_rowOf) := goodIn_app (goodIn_of _ (by decide +kernel)) ggX2_weakSum_X2_rowOf
set_option maxRecDepth 20000 in
theorem ggX2_weakSum_X1_sumOf : GoodIn wsX2_weakSum wsX1_sumOf := goodIn_r _ [40, 41, 42] (by decide +kernel) (by decide +kernel)
set_option maxRecDepth 20000 in
theorem gX2_weakSum_X1_sumOf : GoodIn wsX2_weakSum (wsV RX2 88 RX1 yX1_sumOf wsX1_sumOf) := goodIn_app (goodIn_of _ (by decide +kernel)) ggX2_weakSum_X1_sumOf
theorem dX2_weakSum_0 : decode cX2_weakSum 0 = .ok (.aload_n 0, 1) := by decide +kernel
theorem dX2_weakSum_1 : decode cX2_weakSum 1 = .ok (.iload_n 1, 1) := by decide +kernel
theorem dX2_weakSum_2 : decode cX2_weakSum 2 = .ok (.invokevirtual 68, 3) := by decide +kernel
theorem dX2_weakSum_5 : decode cX2_weakSum 5 = .ok (.astore 4, 2) := by decide +kernel
theorem dX2_weakSum_7 : decode cX2_weakSum 7 = .ok (.iload_n 3, 1) := by decide +kernel
theorem dX2_weakSum_8 : decode cX2_weakSum 8 = .ok (.iconst 1, 1) := by decide +kernel
theorem dX2_weakSum_9 : decode cX2_weakSum 9 = .ok (.if_icmp .lt 9, 3) := by decide +kernel
theorem dX2_weakSum_12 : decode cX2_weakSum 12 = .ok (.iload_n 3, 1) := by decide +kernel
theorem dX2_weakSum_13 : decode cX2_weakSum 13 = .ok (.bipush 32, 2) := by decide +kernel
theorem dX2_weakSum_15 : decode cX2_weakSum 15 = .ok (.if_icmp .le 13, 3) := by decide +kernel
theorem dX2_weakSum_18 : decode cX2_weakSum 18 = .ok (.new 45, 3) := by decide +kernel
theorem dX2_weakSum_21 : decode cX2_weakSum 21 = .ok (.dup, 1) := by decide +kernel
theorem dX2_weakSum_22 : decode cX2_weakSum 22 = .ok (.ldc 84, 2) := by decide +kernel
theorem dX2_weakSum_24 : decode cX2_weakSum 24 = .ok (.invokespecial 49, 3) := by decide +kernel
theorem dX2_weakSum_27 : decode cX2_weakSum 27 = .ok (.athrow, 1) := by decide +kernel
theorem dX2_weakSum_28 : decode cX2_weakSum 28 = .ok (.iload_n 2, 1) := by decide +kernel
theorem dX2_weakSum_29 : decode cX2_weakSum 29 = .ok (.ifCond .lt 15, 3) := by decide +kernel
theorem dX2_weakSum_32 : decode cX2_weakSum 32 = .ok (.iload_n 2, 1) := by decide +kernel
theorem dX2_weakSum_33 : decode cX2_weakSum 33 = .ok (.aload 4, 2) := by decide +kernel
theorem dX2_weakSum_35 : decode cX2_weakSum 35 = .ok (.getfield 72, 3) := by decide +kernel
theorem dX2_weakSum_38 : decode cX2_weakSum 38 = .ok (.arraylength, 1) := by decide +kernel
theorem dX2_weakSum_39 : decode cX2_weakSum 39 = .ok (.iload_n 3, 1) := by decide +kernel
theorem dX2_weakSum_40 : decode cX2_weakSum 40 = .ok (.isub, 1) := by decide +kernel
theorem dX2_weakSum_41 : decode cX2_weakSum 41 = .ok (.if_icmp .le 13, 3) := by decide +kernel
theorem dX2_weakSum_44 : decode cX2_weakSum 44 = .ok (.new 45, 3) := by decide +kernel
theorem dX2_weakSum_47 : decode cX2_weakSum 47 = .ok (.dup, 1) := by decide +kernel
theorem dX2_weakSum_48 : decode cX2_weakSum 48 = .ok (.ldc 86, 2) := by decide +kernel
theorem dX2_weakSum_50 : decode cX2_weakSum 50 = .ok (.invokespecial 49, 3) := by decide +kernel
theorem dX2_weakSum_53 : decode cX2_weakSum 53 = .ok (.athrow, 1) := by decide +kernel
theorem dX2_weakSum_54 : decode cX2_weakSum 54 = .ok (.aload 4, 2) := by decide +kernel
theorem dX2_weakSum_56 : decode cX2_weakSum 56 = .ok (.iload_n 2, 1) := by decide +kernel
theorem dX2_weakSum_57 : decode cX2_weakSum 57 = .ok (.iload_n 3, 1) := by decide +kernel
theorem dX2_weakSum_58 : decode cX2_weakSum 58 = .ok (.invokevirtual 88, 3) := by decide +kernel
theorem dX2_weakSum_61 : decode cX2_weakSum 61 = .ok (.ireturn, 1) := by decide +kernel
set_option maxRecDepth 20000 in
theorem ggX2_collisions_X2_rowOf : GoodIn wsX2_collisions wsX2_rowOf := goodIn_ca (goodIn_r _ [7, 8, 9, 10, 11, 12, 13, 14, 15, 16, 17, 18, 19, 20, 21, 22, 23, 24, 25, 26, 27, 28, 29, 30, 31, 32, 33, 34, 51, 52, 53, 54, 55, 56, 57, 58, 59, 60, 61] (by decide +kernel) (by decide +kernel)) (goodIn_sub (fun _ h => List.mem_cons_of_mem _ (List.mem_append_left _ (List.mem_append_right _ h))) (by decide +kernel))
set_option maxRecDepth 20000 in
theorem gX2_collisions_X2_rowOf : GoodIn wsX2_collisions (wsV RX2 68 RX2 yX2_rowOf wsX2_rowOf) := goodIn_app (goodIn_of _ (by decide +kernel)) ggX2_collisions_X2_rowOf
set_option maxRecDepth 20000 in
theorem ggX2_collisions_X2_checkSize : GoodIn wsX2_collisions wsX2_checkSize := goodIn_ca (goodIn_r _ [37, 38, 39] (by decide +kernel) (by decide +kernel)) (goodIn_sub (fun _ h => List.mem_cons_of_mem _ (List.mem_append_right _ h)) (by decide +kernel))
set_option maxRecDepth 20000 in
theorem gX2_collisions_X2_checkSize : GoodIn wsX2_collisions (va_wsS RX2 92 yX2_checkSize wsX2_checkSize) := goodIn_app (goodIn_of _ (by decide +kernel)) ggX2_collisions_X2_checkSize
set_option maxRecDepth 20000 in
theorem ggX2_collisions_X1_sumOf : GoodIn wsX2_collisions wsX1_sumOf := goodIn_r _ [44, 45, 50] (by decide +kernel) (by decide +kernel)
set_option maxRecDepth 20000 in
theorem gX2_collisions_X1_sumOf : GoodIn wsX2_collisions (wsV RX2 88 RX1 yX1_sumOf wsX1_sumOf) := goodIn_app (goodIn_of _ (by decide +kernel)) ggX2_collisions_X1_sumOf
set_option maxRecDepth 20000 in
theorem ggX2_collisions_X1_hasStretch : GoodIn wsX2_collisions wsX1_hasStretch := goodIn_r _ [49, 45, 50] (by decide +kernel) (by decide +kernel)
set_option maxRecDepth 20000 in
theorem gX2_collisions_X1_hasStretch : GoodIn wsX2_collisions (wsV RX2 96 RX1 yX1_hasStretch wsX1_hasStretch) := goodIn_app (goodIn_of _ (by decide +kernel)) ggX2_collisions_X1_hasStretch
theorem dX2_collisions_0 : decode cX2_collisions 0 = .ok (.aload_n 0, 1) := by decide +kernel
theorem dX2_collisions_1 : decode cX2_collisions 1 = .ok (.iload_n 1, 1) := by decide +kernel
theorem dX2_collisions_2 : decode cX2_collisions 2 = .ok (.invokevirtual 68, 3) := by decide +kernel
theorem dX2_collisions_5 : decode cX2_collisions 5 = .ok (.astore_n 3, 1) := by decide +kernel
theorem dX2_collisions_6 : decode cX2_collisions 6 = .ok (.iload_n 2, 1) := by decide +kernel
theorem dX2_collisions_7 : decode cX2_collisions 7 = .ok (.invokestatic 92, 3) := by decide +kernel
theorem dX2_collisions_10 : decode cX2_collisions 10 = .ok (.aload_n 3, 1) := by decide +kernel
theorem dX2_collisions_11 : decode cX2_collisions 11 = .ok (.getfield 72, 3) := by decide +kernel
theorem dX2_collisions_14 : decode cX2_collisions 14 = .ok (.arraylength, 1) := by decide +kernel
theorem dX2_collisions_15 : decode cX2_collisions 15 = .ok (.iload_n 2, 1) := by decide +kernel
theorem dX2_collisions_16 : decode cX2_collisions 16 = .ok (.idiv, 1) := by decide +kernel
theorem dX2_collisions_17 : decode cX2_collisions 17 = .ok (.istore 4, 2) := by decide +kernel
theorem dX2_collisions_19 : decode cX2_collisions 19 = .ok (.iconst 0, 1) := by decide +kernel
theorem dX2_collisions_20 : decode cX2_collisions 20 = .ok (.istore 5, 2) := by decide +kernel
theorem dX2_collisions_22 : decode cX2_collisions 22 = .ok (.iconst 0, 1) := by decide +kernel
theorem dX2_collisions_23 : decode cX2_collisions 23 = .ok (.istore 6, 2) := by decide +kernel
theorem dX2_collisions_25 : decode cX2_collisions 25 = .ok (.iload 6, 2) := by decide +kernel
theorem dX2_collisions_27 : decode cX2_collisions 27 = .ok (.iload 4, 2) := by decide +kernel
theorem dX2_collisions_29 : decode cX2_collisions 29 = .ok (.if_icmp .ge 78, 3) := by decide +kernel
theorem dX2_collisions_32 : decode cX2_collisions 32 = .ok (.aload_n 0, 1) := by decide +kernel
theorem dX2_collisions_33 : decode cX2_collisions 33 = .ok (.getfield 39, 3) := by decide +kernel
theorem dX2_collisions_36 : decode cX2_collisions 36 = .ok (.iload 6, 2) := by decide +kernel
theorem dX2_collisions_38 : decode cX2_collisions 38 = .ok (.aload_n 3, 1) := by decide +kernel
theorem dX2_collisions_39 : decode cX2_collisions 39 = .ok (.iload 6, 2) := by decide +kernel
theorem dX2_collisions_41 : decode cX2_collisions 41 = .ok (.iload_n 2, 1) := by decide +kernel
theorem dX2_collisions_42 : decode cX2_collisions 42 = .ok (.imul, 1) := by decide +kernel
theorem dX2_collisions_43 : decode cX2_collisions 43 = .ok (.iload_n 2, 1) := by decide +kernel
theorem dX2_collisions_44 : decode cX2_collisions 44 = .ok (.invokevirtual 88, 3) := by decide +kernel
theorem dX2_collisions_47 : decode cX2_collisions 47 = .ok (.iastore, 1) := by decide +kernel
theorem dX2_collisions_48 : decode cX2_collisions 48 = .ok (.iconst 0, 1) := by decide +kernel
theorem dX2_collisions_49 : decode cX2_collisions 49 = .ok (.istore 7, 2) := by decide +kernel
theorem dX2_collisions_51 : decode cX2_collisions 51 = .ok (.iload 7, 2) := by decide +kernel
theorem dX2_collisions_53 : decode cX2_collisions 53 = .ok (.iload 6, 2) := by decide +kernel
theorem dX2_collisions_55 : decode cX2_collisions 55 = .ok (.if_icmp .ge 46, 3) := by decide +kernel
theorem dX2_collisions_58 : decode cX2_collisions 58 = .ok (.aload_n 0, 1) := by decide +kernel
theorem dX2_collisions_59 : decode cX2_collisions 59 = .ok (.getfield 39, 3) := by decide +kernel
theorem dX2_collisions_62 : decode cX2_collisions 62 = .ok (.iload 7, 2) := by decide +kernel
theorem dX2_collisions_64 : decode cX2_collisions 64 = .ok (.iaload, 1) := by decide +kernel
theorem dX2_collisions_65 : decode cX2_collisions 65 = .ok (.aload_n 0, 1) := by decide +kernel
theorem dX2_collisions_66 : decode cX2_collisions 66 = .ok (.getfield 39, 3) := by decide +kernel
theorem dX2_collisions_69 : decode cX2_collisions 69 = .ok (.iload 6, 2) := by decide +kernel
theorem dX2_collisions_71 : decode cX2_collisions 71 = .ok (.iaload, 1) := by decide +kernel
theorem dX2_collisions_72 : decode cX2_collisions 72 = .ok (.if_icmp .ne 23, 3) := by decide +kernel
theorem dX2_collisions_75 : decode cX2_collisions 75 = .ok (.aload_n 3, 1) := by decide +kernel
theorem dX2_collisions_76 : decode cX2_collisions 76 = .ok (.iload 7, 2) := by decide +kernel
theorem dX2_collisions_78 : decode cX2_collisions 78 = .ok (.iload_n 2, 1) := by decide +kernel
theorem dX2_collisions_79 : decode cX2_collisions 79 = .ok (.imul, 1) := by decide +kernel
theorem dX2_collisions_80 : decode cX2_collisions 80 = .ok (.aload_n 3, 1) := by decide +kernel
theorem dX2_collisions_81 : decode cX2_collisions 81 = .ok (.iload 6, 2) := by decide +kernel
theorem dX2_collisions_83 : decode cX2_collisions 83 = .ok (.iload_n 2, 1) := by decide +kernel
theorem dX2_collisions_84 : decode cX2_collisions 84 = .ok (.imul, 1) := by decide +kernel
theorem dX2_collisions_85 : decode cX2_collisions 85 = .ok (.iload_n 2, 1) := by decide +kernel
theorem dX2_collisions_86 : decode cX2_collisions 86 = .ok (.invokevirtual 96, 3) := by decide +kernel
theorem dX2_collisions_89 : decode cX2_collisions 89 = .ok (.ifCond .ne 6, 3) := by decide +kernel
theorem dX2_collisions_92 : decode cX2_collisions 92 = .ok (.iinc 5 1, 3) := by decide +kernel
theorem dX2_collisions_95 : decode cX2_collisions 95 = .ok (.iinc 7 1, 3) := by decide +kernel
theorem dX2_collisions_98 : decode cX2_collisions 98 = .ok (.goto (-47), 3) := by decide +kernel
theorem dX2_collisions_101 : decode cX2_collisions 101 = .ok (.iinc 6 1, 3) := by decide +kernel
theorem dX2_collisions_104 : decode cX2_collisions 104 = .ok (.goto (-79), 3) := by decide +kernel
theorem dX2_collisions_107 : decode cX2_collisions 107 = .ok (.iload 5, 2) := by decide +kernel
theorem dX2_collisions_109 : decode cX2_collisions 109 = .ok (.ireturn, 1) := by decide +kernel
set_option maxRecDepth 20000 in
theorem ggX2_differentBlocks_X2_rowOf : GoodIn wsX2_differentBlocks wsX2_rowOf := goodIn_ca (goodIn_r _ [6, 7, 8, 9, 10, 11, 12, 13, 14, 15, 16, 17, 18, 19, 20, 21, 22, 23, 24, 25, 26, 27, 28, 29, 30, 31, 32, 33, 49, 50, 51, 52, 53, 54, 55, 56, 57, 58, 59] (by decide +kernel) (by decide +kernel)) (goodIn_sub (fun _ h => List.mem_cons_of_mem _ (List.mem_append_left _ (List.mem_append_right _ h))) (by decide +kernel))
set_option maxRecDepth 20000 in
theorem gX2_differentBlocks_X2_rowOf : GoodIn wsX2_differentBlocks (wsV RX2 68 RX2 yX2_rowOf wsX2_rowOf) := goodIn_app (goodIn_of _ (by decide +kernel)) ggX2_differentBlocks_X2_rowOf
set_option maxRecDepth 20000 in
theorem ggX2_differentBlocks_X2_checkSize : GoodIn wsX2_differentBlocks wsX2_checkSize := goodIn_ca (goodIn_r _ [36, 37, 38] (by decide +kernel) (by decide +kernel)) (goodIn_sub (fun _ h => List.mem_cons_of_mem _ (List.mem_append_right _ h)) (by decide +kernel))
set_option maxRecDepth 20000 in
theorem gX2_differentBlocks_X2_checkSize : GoodIn wsX2_differentBlocks (va_wsS RX2 92 yX2_checkSize wsX2_checkSize) := goodIn_app (goodIn_of _ (by decide +kernel)) ggX2_differentBlocks_X2_checkSize
set_option maxRecDepth 20000 in
theorem ggX2_differentBlocks_X2_firstBlock : GoodIn wsX2_differentBlocks wsX2_firstBlock := goodIn_r _ [41, 1, 42, 43, 44, 45, 46, 47, 48] (by decide +kernel) (by decide +kernel)
set_option maxRecDepth 20000 in
theorem gX2_differentBlocks_X2_firstBlock : GoodIn wsX2_differentBlocks (va_wsS RX2 100 yX2_firstBlock wsX2_firstBlock) := goodIn_app (goodIn_of _ (by decide +kernel)) ggX2_differentBlocks_X2_firstBlock
theorem dX2_differentBlocks_0 : decode cX2_differentBlocks 0 = .ok (.aload_n 0, 1) := by decide +kernel
theorem dX2_differentBlocks_1 : decode cX2_differentBlocks 1 = .ok (.iload_n 1, 1) := by decide +kernel
theorem dX2_differentBlocks_2 : decode cX2_differentBlocks 2 = .ok (.invokevirtual 68, 3) := by decide +kernel
theorem dX2_differentBlocks_5 : decode cX2_differentBlocks 5 = .ok (.astore_n 3, 1) := by decide +kernel
theorem dX2_differentBlocks_6 : decode cX2_differentBlocks 6 = .ok (.iload_n 2, 1) := by decide +kernel
theorem dX2_differentBlocks_7 : decode cX2_differentBlocks 7 = .ok (.invokestatic 92, 3) := by decide +kernel
theorem dX2_differentBlocks_10 : decode cX2_differentBlocks 10 = .ok (.aload_n 3, 1) := by decide +kernel
theorem dX2_differentBlocks_11 : decode cX2_differentBlocks 11 = .ok (.getfield 72, 3) := by decide +kernel
theorem dX2_differentBlocks_14 : decode cX2_differentBlocks 14 = .ok (.arraylength, 1) := by decide +kernel
theorem dX2_differentBlocks_15 : decode cX2_differentBlocks 15 = .ok (.iload_n 2, 1) := by decide +kernel
theorem dX2_differentBlocks_16 : decode cX2_differentBlocks 16 = .ok (.idiv, 1) := by decide +kernel
theorem dX2_differentBlocks_17 : decode cX2_differentBlocks 17 = .ok (.istore 4, 2) := by decide +kernel
theorem dX2_differentBlocks_19 : decode cX2_differentBlocks 19 = .ok (.iconst 0, 1) := by decide +kernel
theorem dX2_differentBlocks_20 : decode cX2_differentBlocks 20 = .ok (.istore 5, 2) := by decide +kernel
theorem dX2_differentBlocks_22 : decode cX2_differentBlocks 22 = .ok (.iconst 0, 1) := by decide +kernel
theorem dX2_differentBlocks_23 : decode cX2_differentBlocks 23 = .ok (.istore 6, 2) := by decide +kernel
theorem dX2_differentBlocks_25 : decode cX2_differentBlocks 25 = .ok (.iload 6, 2) := by decide +kernel
theorem dX2_differentBlocks_27 : decode cX2_differentBlocks 27 = .ok (.iload 4, 2) := by decide +kernel
theorem dX2_differentBlocks_29 : decode cX2_differentBlocks 29 = .ok (.if_icmp .ge 27, 3) := by decide +kernel
theorem dX2_differentBlocks_32 : decode cX2_differentBlocks 32 = .ok (.aload_n 3, 1) := by decide +kernel
theorem dX2_differentBlocks_33 : decode cX2_differentBlocks 33 = .ok (.aload_n 3, 1) := by decide +kernel
theorem dX2_differentBlocks_34 : decode cX2_differentBlocks 34 = .ok (.iload 6, 2) := by decide +kernel
theorem dX2_differentBlocks_36 : decode cX2_differentBlocks 36 = .ok (.iload_n 2, 1) := by decide +kernel
theorem dX2_differentBlocks_37 : decode cX2_differentBlocks 37 = .ok (.imul, 1) := by decide +kernel
theorem dX2_differentBlocks_38 : decode cX2_differentBlocks 38 = .ok (.iload_n 2, 1) := by decide +kernel
theorem dX2_differentBlocks_39 : decode cX2_differentBlocks 39 = .ok (.invokestatic 100, 3) := by decide +kernel
theorem dX2_differentBlocks_42 : decode cX2_differentBlocks 42 = .ok (.iload 6, 2) := by decide +kernel
theorem dX2_differentBlocks_44 : decode cX2_differentBlocks 44 = .ok (.if_icmp .ne 6, 3) := by decide +kernel
theorem dX2_differentBlocks_47 : decode cX2_differentBlocks 47 = .ok (.iinc 5 1, 3) := by decide +kernel
theorem dX2_differentBlocks_50 : decode cX2_differentBlocks 50 = .ok (.iinc 6 1, 3) := by decide +kernel
theorem dX2_differentBlocks_53 : decode cX2_differentBlocks 53 = .ok (.goto (-28), 3) := by decide +kernel
theorem dX2_differentBlocks_56 : decode cX2_differentBlocks 56 = .ok (.iload 5, 2) := by decide +kernel
theorem dX2_differentBlocks_58 : decode cX2_differentBlocks 58 = .ok (.ireturn, 1) := by decide +kernel
set_option maxRecDepth 20000 in
theorem ggX2_difference_X2_rowOf : GoodIn wsX2_difference wsX2_rowOf := goodIn_ca (goodIn_r _ [9, 10, 11, 12, 13, 14, 15, 16, 17, 18, 19, 20, 21, 22, 23, 24, 25, 26, 27, 28, 29, 30, 31, 32, 33, 34, 35, 36, 161, 162, 163, 164, 165, 166, 167, 168, 176, 177, 178] (by decide +kernel) (by decide +kernel)) (goodIn_sub (fun _ h => List.mem_cons_of_mem _ (List.mem_append_left _ (List.mem_append_left _ (List.mem_append_right _ h)))) (by decide +kernel))
set_option maxRecDepth 20000 in
theorem gX2_difference_X2_rowOf : GoodIn wsX2_difference (wsV RX2 68 RX2 yX2_rowOf wsX2_rowOf) := goodIn_app (goodIn_of _ (by decide +kernel)) ggX2_difference_X2_rowOf
set_option maxRecDepth 20000 in
theorem ggX2_difference_X2_checkSize : GoodIn wsX2_difference wsX2_checkSize := goodIn_ca (goodIn_r _ [39, 40, 41] (by decide +kernel) (by decide +kernel)) (goodIn_sub (fun _ h => List.mem_cons_of_mem _ (List.mem_append_left _ (List.mem_append_right _ h))) (by decide +kernel))
set_option maxRecDepth 20000 in
theorem gX2_difference_X2_checkSize : GoodIn wsX2_difference (va_wsS RX2 92 yX2_checkSize wsX2_checkSize) := goodIn_app (goodIn_of _ (by decide +kernel)) ggX2_difference_X2_checkSize
set_option maxRecDepth 20000 in
theorem ggX2_difference_X2_checkRoomForPatch : GoodIn wsX2_difference wsX2_checkRoomForPatch := goodIn_ca (goodIn_r _ [45, 46, 47, 1, 14, 15, 16, 17, 18, 19, 161, 162, 163, 164, 165, 166, 167, 168, 176, 177, 178] (by decide +kernel) (by decide +kernel)) (goodIn_sub (fun _ h => List.mem_cons_of_mem _ (List.mem_append_right _ h)) (by decide +kernel))
set_option maxRecDepth 20000 in
theorem gX2_difference_X2_checkRoomForPatch : GoodIn wsX2_difference (wsV RX2 104 RX2 yX2_checkRoomForPatch wsX2_checkRoomForPatch) := goodIn_app (goodIn_of _ (by decide +kernel)) ggX2_difference_X2_checkRoomForPatch
set_option maxRecDepth 20000 in
theorem ggX2_difference_X2_originsByBlocks : GoodIn wsX2_difference wsX2_originsByBlocks := goodIn_r _ [50, 51, 52, 53, 54, 8, 55, 56, 57, 58, 59, 60, 61, 62, 63, 64, 179] (by decide +kernel) (by decide +kernel)
set_option maxRecDepth 20000 in
theorem gX2_difference_X2_originsByBlocks : GoodIn wsX2_difference (va_wsS RX2 107 yX2_originsByBlocks wsX2_originsByBlocks) := goodIn_app (goodIn_of _ (by decide +kernel)) ggX2_difference_X2_originsByBlocks
set_option maxRecDepth 20000 in
theorem ggX2_difference_X2_firstLike : GoodIn wsX2_difference wsX2_firstLike := goodIn_ca (goodIn_r _ [68, 5, 6, 7, 8, 9, 10, 11, 12, 13, 14, 15, 16, 17, 18, 19, 20, 21, 22, 23, 24, 25, 26, 27, 28, 29, 30, 31, 32, 33, 34, 35, 36, 69, 70, 71, 59, 72, 61, 73, 57, 58, 60, 161, 162, 163, 164, 165, 166, 167, 168, 176, 177, 178, 179] (by decide +kernel) (by decide +kernel)) (goodIn_sub (fun _ h => List.mem_cons_of_mem _ (List.mem_append_left _ (List.mem_append_left _ (List.mem_append_right _ h)))) (by decide +kernel))
set_option maxRecDepth 20000 in
theorem gX2_difference_X2_firstLike : GoodIn wsX2_difference (wsV RX2 113 RX2 yX2_firstLike wsX2_firstLike) := goodIn_app (goodIn_of _ (by decide +kernel)) ggX2_difference_X2_firstLike
set_option maxRecDepth 20000 in
theorem ggX2_difference_X0_init : GoodIn wsX2_difference wsX0_init := goodIn_r _ [76, 77, 78, 79, 80, 81, 82, 83, 84, 85, 86, 87, 88, 4, 89, 52, 90, 91, 92, 93, 94, 95, 96, 97, 98, 99, 100, 101, 102, 103, 104, 105, 106, 107, 108, 109, 110, 111, 112, 113, 114, 115, 116, 169, 170, 171, 172, 173, 174, 175] (by decide +kernel) (by decide +kernel)
set_option maxRecDepth 20000 in
theorem gX2_difference_X0_init : GoodIn wsX2_difference (wsX0_init) := ggX2_difference_X0_init
set_option maxRecDepth 20000 in
theorem ggX2_difference_Jx4a65c_add_9ea2d : GoodIn wsX2_difference wsJx4a65c_add_9ea2d := goodIn_r _ [120, 121, 122, 36, 19, 123, 124, 125, 17, 126, 127, 128, 129, 130, 131, 132, 133, 134, 135, 136, 137, 105, 138, 139, 140, 141, 142, 143, 144, 145, 146, 147, 148, 149, 150, 95, 151, 152, 153, 154, 155, 156, 157, 158, 159, 160, 103, 104, 106, 107, 108, 109, 110, 176, 177, 178] (by decide +kernel) (by decide +kernel)
set_option maxRecDepth 20000 in
theorem gX2_difference_Jx4a65c_add_9ea2d : GoodIn wsX2_difference (wsV RX2 60 RJx4a65c yJx4a65c_add_9ea2d wsJx4a65c_add_9ea2d) := goodIn_app (goodIn_of _ (by decide +kernel)) ggX2_difference_Jx4a65c_add_9ea2d
set_option maxRecDepth 20000 in
theorem ggX2_difference_Jx4a65c_size_8abf5 : GoodIn wsX2_difference wsJx4a65c_size_8abf5 := goodIn_r _ [18, 19, 176, 177, 178] (by decide +kernel) (by decide +kernel)
set_option maxRecDepth 20000 in
theorem gX2_difference_Jx4a65c_size_8abf5 : GoodIn wsX2_difference (wsV RX2 64 RJx4a65c yJx4a65c_size_8abf5 wsJx4a65c_size_8abf5) := goodIn_app (goodIn_of _ (by decide +kernel)) ggX2_difference_Jx4a65c_size_8abf5
theorem dX2_difference_0 : decode cX2_difference 0 = .ok (.aload_n 0, 1) := by decide +kernel
theorem dX2_difference_1 : decode cX2_difference 1 = .ok (.iload_n 1, 1) := by decide +kernel
theorem dX2_difference_2 : decode cX2_difference 2 = .ok (.invokevirtual 68, 3) := by decide +kernel
theorem dX2_difference_5 : decode cX2_difference 5 = .ok (.astore 4, 2) := by decide +kernel
theorem dX2_difference_7 : decode cX2_difference 7 = .ok (.aload_n 0, 1) := by decide +kernel
theorem dX2_difference_8 : decode cX2_difference 8 = .ok (.iload_n 2, 1) := by decide +kernel
theorem dX2_difference_9 : decode cX2_difference 9 = .ok (.invokevirtual 68, 3) := by decide +kernel
theorem dX2_difference_12 : decode cX2_difference 12 = .ok (.astore 5, 2) := by decide +kernel
theorem dX2_difference_14 : decode cX2_difference 14 = .ok (.iload_n 3, 1) := by decide +kernel
theorem dX2_difference_15 : decode cX2_difference 15 = .ok (.invokestatic 92, 3) := by decide +kernel
theorem dX2_difference_18 : decode cX2_difference 18 = .ok (.aload_n 0, 1) := by decide +kernel
theorem dX2_difference_19 : decode cX2_difference 19 = .ok (.invokevirtual 104, 3) := by decide +kernel
theorem dX2_difference_22 : decode cX2_difference 22 = .ok (.aload 4, 2) := by decide +kernel
theorem dX2_difference_24 : decode cX2_difference 24 = .ok (.aload 5, 2) := by decide +kernel
theorem dX2_difference_26 : decode cX2_difference 26 = .ok (.iload_n 3, 1) := by decide +kernel
theorem dX2_difference_27 : decode cX2_difference 27 = .ok (.invokestatic 107, 3) := by decide +kernel
theorem dX2_difference_30 : decode cX2_difference 30 = .ok (.astore 6, 2) := by decide +kernel
theorem dX2_difference_32 : decode cX2_difference 32 = .ok (.aload_n 0, 1) := by decide +kernel
theorem dX2_difference_33 : decode cX2_difference 33 = .ok (.getfield 24, 3) := by decide +kernel
theorem dX2_difference_36 : decode cX2_difference 36 = .ok (.new 111, 3) := by decide +kernel
theorem dX2_difference_39 : decode cX2_difference 39 = .ok (.dup, 1) := by decide +kernel
theorem dX2_difference_40 : decode cX2_difference 40 = .ok (.aload_n 0, 1) := by decide +kernel
theorem dX2_difference_41 : decode cX2_difference 41 = .ok (.iload_n 1, 1) := by decide +kernel
theorem dX2_difference_42 : decode cX2_difference 42 = .ok (.invokevirtual 113, 3) := by decide +kernel
theorem dX2_difference_45 : decode cX2_difference 45 = .ok (.aload_n 0, 1) := by decide +kernel
theorem dX2_difference_46 : decode cX2_difference 46 = .ok (.iload_n 2, 1) := by decide +kernel
theorem dX2_difference_47 : decode cX2_difference 47 = .ok (.invokevirtual 113, 3) := by decide +kernel
theorem dX2_difference_50 : decode cX2_difference 50 = .ok (.aload 5, 2) := by decide +kernel
theorem dX2_difference_52 : decode cX2_difference 52 = .ok (.aload 6, 2) := by decide +kernel
theorem dX2_difference_54 : decode cX2_difference 54 = .ok (.invokespecial 117, 3) := by decide +kernel
theorem dX2_difference_57 : decode cX2_difference 57 = .ok (.invokevirtual 60, 3) := by decide +kernel
theorem dX2_difference_60 : decode cX2_difference 60 = .ok (.pop, 1) := by decide +kernel
theorem dX2_difference_61 : decode cX2_difference 61 = .ok (.aload_n 0, 1) := by decide +kernel
theorem dX2_difference_62 : decode cX2_difference 62 = .ok (.getfield 24, 3) := by decide +kernel
theorem dX2_difference_65 : decode cX2_difference 65 = .ok (.invokevirtual 64, 3) := by decide +kernel
theorem dX2_difference_68 : decode cX2_difference 68 = .ok (.iconst 1, 1) := by decide +kernel
theorem dX2_difference_69 : decode cX2_difference 69 = .ok (.isub, 1) := by decide +kernel
theorem dX2_difference_70 : decode cX2_difference 70 = .ok (.ireturn, 1) := by decide +kernel
set_option maxRecDepth 20000 in
theorem ggX2_compose_X2_patchOf : GoodIn wsX2_compose wsX2_patchOf := goodIn_ca (goodIn_r _ [15, 16, 17, 6, 18, 19, 20, 21, 22, 23, 24, 25, 26, 27, 28, 29, 30, 31, 32, 33, 34, 35, 36, 37, 38, 39, 40, 41, 146, 147, 148, 149, 150, 151, 152, 153, 154, 155, 156] (by decide +kernel) (by decide +kernel)) (goodIn_sub (fun _ h => List.mem_cons_of_mem _ (List.mem_append_left _ (List.mem_append_right _ h))) (by decide +kernel))
set_option maxRecDepth 20000 in
theorem gX2_compose_X2_patchOf : GoodIn wsX2_compose (wsV RX2 120 RX2 yX2_patchOf wsX2_patchOf) := goodIn_app (goodIn_of _ (by decide +kernel)) ggX2_compose_X2_patchOf
set_option maxRecDepth 20000 in
theorem ggX2_compose_X2_checkRoomForPatch : GoodIn wsX2_compose wsX2_checkRoomForPatch := goodIn_ca (goodIn_r _ [45, 46, 47, 6, 19, 20, 21, 22, 23, 24, 146, 147, 148, 149, 150, 151, 152, 153, 154, 155, 156] (by decide +kernel) (by decide +kernel)) (goodIn_sub (fun _ h => List.mem_cons_of_mem _ (List.mem_append_right _ h)) (by decide +kernel))
set_option maxRecDepth 20000 in
theorem gX2_compose_X2_checkRoomForPatch : GoodIn wsX2_compose (wsV RX2 104 RX2 yX2_checkRoomForPatch wsX2_checkRoomForPatch) := goodIn_app (goodIn_of _ (by decide +kernel)) ggX2_compose_X2_checkRoomForPatch
set_option maxRecDepth 20000 in
theorem ggX2_compose_X2_originsThrough : GoodIn wsX2_compose wsX2_originsThrough := goodIn_r _ [50, 51] (by decide +kernel) (by decide +kernel)
set_option maxRecDepth 20000 in
theorem gX2_compose_X2_originsThrough : GoodIn wsX2_compose (va_wsS RX2 135 yX2_originsThrough wsX2_originsThrough) := goodIn_app (goodIn_of _ (by decide +kernel)) ggX2_compose_X2_originsThrough
set_option maxRecDepth 20000 in
theorem ggX2_compose_X0_init : GoodIn wsX2_compose wsX0_init := goodIn_r _ [54, 55, 56, 57, 58, 59, 60, 61, 62, 63, 64, 65, 66, 9, 67, 51, 68, 69, 70, 71, 72, 73, 74, 75, 76, 77, 78, 79, 80, 81, 82, 83, 84, 85, 86, 87, 88, 89, 90, 91, 92, 93, 94, 139, 140, 141, 142, 143, 144, 145] (by decide +kernel) (by decide +kernel)
set_option maxRecDepth 20000 in
theorem gX2_compose_X0_init : GoodIn wsX2_compose (wsX0_init) := ggX2_compose_X0_init
set_option maxRecDepth 20000 in
theorem ggX2_compose_Jx4a65c_add_9ea2d : GoodIn wsX2_compose wsJx4a65c_add_9ea2d := goodIn_r _ [98, 99, 100, 41, 24, 101, 102, 103, 22, 104, 105, 106, 107, 108, 109, 110, 111, 112, 113, 114, 115, 83, 116, 117, 118, 119, 120, 121, 122, 123, 124, 125, 126, 127, 128, 73, 129, 130, 131, 132, 133, 134, 135, 136, 137, 138, 81, 82, 84, 85, 86, 87, 88, 154, 155, 156] (by decide +kernel) (by decide +kernel)
set_option maxRecDepth 20000 in
theorem gX2_compose_Jx4a65c_add_9ea2d : GoodIn wsX2_compose (wsV RX2 60 RJx4a65c yJx4a65c_add_9ea2d wsJx4a65c_add_9ea2d) := goodIn_app (goodIn_of _ (by decide +kernel)) ggX2_compose_Jx4a65c_add_9ea2d
set_option maxRecDepth 20000 in
theorem ggX2_compose_Jx4a65c_size_8abf5 : GoodIn wsX2_compose wsJx4a65c_size_8abf5 := goodIn_r _ [23, 24, 154, 155, 156] (by decide +kernel) (by decide +kernel)
set_option maxRecDepth 20000 in
theorem gX2_compose_Jx4a65c_size_8abf5 : GoodIn wsX2_compose (wsV RX2 64 RJx4a65c yJx4a65c_size_8abf5 wsJx4a65c_size_8abf5) := goodIn_app (goodIn_of _ (by decide +kernel)) ggX2_compose_Jx4a65c_size_8abf5
theorem dX2_compose_0 : decode cX2_compose 0 = .ok (.aload_n 0, 1) := by decide +kernel
theorem dX2_compose_1 : decode cX2_compose 1 = .ok (.iload_n 1, 1) := by decide +kernel
theorem dX2_compose_2 : decode cX2_compose 2 = .ok (.invokevirtual 120, 3) := by decide +kernel
theorem dX2_compose_5 : decode cX2_compose 5 = .ok (.astore_n 3, 1) := by decide +kernel
theorem dX2_compose_6 : decode cX2_compose 6 = .ok (.aload_n 0, 1) := by decide +kernel
theorem dX2_compose_7 : decode cX2_compose 7 = .ok (.iload_n 2, 1) := by decide +kernel
theorem dX2_compose_8 : decode cX2_compose 8 = .ok (.invokevirtual 120, 3) := by decide +kernel
theorem dX2_compose_11 : decode cX2_compose 11 = .ok (.astore 4, 2) := by decide +kernel
theorem dX2_compose_13 : decode cX2_compose 13 = .ok (.aload_n 3, 1) := by decide +kernel
theorem dX2_compose_14 : decode cX2_compose 14 = .ok (.getfield 124, 3) := by decide +kernel
theorem dX2_compose_17 : decode cX2_compose 17 = .ok (.aload 4, 2) := by decide +kernel
theorem dX2_compose_19 : decode cX2_compose 19 = .ok (.getfield 127, 3) := by decide +kernel
theorem dX2_compose_22 : decode cX2_compose 22 = .ok (.if_icmp .eq 13, 3) := by decide +kernel
theorem dX2_compose_25 : decode cX2_compose 25 = .ok (.new 45, 3) := by decide +kernel
theorem dX2_compose_28 : decode cX2_compose 28 = .ok (.dup, 1) := by decide +kernel
theorem dX2_compose_29 : decode cX2_compose 29 = .ok (.ldc 130, 2) := by decide +kernel
theorem dX2_compose_31 : decode cX2_compose 31 = .ok (.invokespecial 49, 3) := by decide +kernel
theorem dX2_compose_34 : decode cX2_compose 34 = .ok (.athrow, 1) := by decide +kernel
theorem dX2_compose_35 : decode cX2_compose 35 = .ok (.aload_n 0, 1) := by decide +kernel
theorem dX2_compose_36 : decode cX2_compose 36 = .ok (.invokevirtual 104, 3) := by decide +kernel
theorem dX2_compose_39 : decode cX2_compose 39 = .ok (.aload_n 3, 1) := by decide +kernel
theorem dX2_compose_40 : decode cX2_compose 40 = .ok (.getfield 132, 3) := by decide +kernel
theorem dX2_compose_43 : decode cX2_compose 43 = .ok (.aload 4, 2) := by decide +kernel
theorem dX2_compose_45 : decode cX2_compose 45 = .ok (.getfield 132, 3) := by decide +kernel
theorem dX2_compose_48 : decode cX2_compose 48 = .ok (.invokestatic 135, 3) := by decide +kernel
theorem dX2_compose_51 : decode cX2_compose 51 = .ok (.astore 5, 2) := by decide +kernel
theorem dX2_compose_53 : decode cX2_compose 53 = .ok (.aload_n 0, 1) := by decide +kernel
theorem dX2_compose_54 : decode cX2_compose 54 = .ok (.getfield 24, 3) := by decide +kernel
theorem dX2_compose_57 : decode cX2_compose 57 = .ok (.new 111, 3) := by decide +kernel
theorem dX2_compose_60 : decode cX2_compose 60 = .ok (.dup, 1) := by decide +kernel
theorem dX2_compose_61 : decode cX2_compose 61 = .ok (.aload_n 3, 1) := by decide +kernel
theorem dX2_compose_62 : decode cX2_compose 62 = .ok (.getfield 127, 3) := by decide +kernel
theorem dX2_compose_65 : decode cX2_compose 65 = .ok (.aload 4, 2) := by decide +kernel
theorem dX2_compose_67 : decode cX2_compose 67 = .ok (.getfield 124, 3) := by decide +kernel
theorem dX2_compose_70 : decode cX2_compose 70 = .ok (.aload 4, 2) := by decide +kernel
theorem dX2_compose_72 : decode cX2_compose 72 = .ok (.getfield 139, 3) := by decide +kernel
theorem dX2_compose_75 : decode cX2_compose 75 = .ok (.aload 5, 2) := by decide +kernel
theorem dX2_compose_77 : decode cX2_compose 77 = .ok (.invokespecial 117, 3) := by decide +kernel
theorem dX2_compose_80 : decode cX2_compose 80 = .ok (.invokevirtual 60, 3) := by decide +kernel
theorem dX2_compose_83 : decode cX2_compose 83 = .ok (.pop, 1) := by decide +kernel
theorem dX2_compose_84 : decode cX2_compose 84 = .ok (.aload_n 0, 1) := by decide +kernel
theorem dX2_compose_85 : decode cX2_compose 85 = .ok (.getfield 24, 3) := by decide +kernel
theorem dX2_compose_88 : decode cX2_compose 88 = .ok (.invokevirtual 64, 3) := by decide +kernel
theorem dX2_compose_91 : decode cX2_compose 91 = .ok (.iconst 1, 1) := by decide +kernel
theorem dX2_compose_92 : decode cX2_compose 92 = .ok (.isub, 1) := by decide +kernel
theorem dX2_compose_93 : decode cX2_compose 93 = .ok (.ireturn, 1) := by decide +kernel
set_option maxRecDepth 20000 in
theorem ggX2_patches_Jx4a65c_size_8abf5 : GoodIn wsX2_patches wsJx4a65c_size_8abf5 := goodIn_r _ [6, 7, 16, 17, 18] (by decide +kernel) (by decide +kernel)
set_option maxRecDepth 20000 in
theorem gX2_patches_Jx4a65c_size_8abf5 : GoodIn wsX2_patches (wsV RX2 64 RJx4a65c yJx4a65c_size_8abf5 wsJx4a65c_size_8abf5) := goodIn_app (goodIn_of _ (by decide +kernel)) ggX2_patches_Jx4a65c_size_8abf5
theorem dX2_patches_0 : decode cX2_patches 0 = .ok (.aload_n 0, 1) := by decide +kernel
theorem dX2_patches_1 : decode cX2_patches 1 = .ok (.getfield 24, 3) := by decide +kernel
theorem dX2_patches_4 : decode cX2_patches 4 = .ok (.invokevirtual 64, 3) := by decide +kernel
theorem dX2_patches_7 : decode cX2_patches 7 = .ok (.ireturn, 1) := by decide +kernel
set_option maxRecDepth 20000 in
theorem ggX2_instructions_X2_patchOf : GoodIn wsX2_instructions wsX2_patchOf := goodIn_ca (goodIn_r _ [6, 7, 8, 9, 10, 11, 12, 13, 14, 15, 16, 17, 18, 19, 20, 21, 22, 23, 24, 25, 26, 27, 28, 29, 30, 31, 32, 33, 41, 42, 43, 44, 45, 46, 47, 48, 49, 50, 51] (by decide +kernel) (by decide +kernel)) (goodIn_sub (fun _ h => List.mem_cons_of_mem _ (List.mem_append_right _ h)) (by decide +kernel))
set_option maxRecDepth 20000 in
theorem gX2_instructions_X2_patchOf : GoodIn wsX2_instructions (wsV RX2 120 RX2 yX2_patchOf wsX2_patchOf) := goodIn_app (goodIn_of _ (by decide +kernel)) ggX2_instructions_X2_patchOf
theorem dX2_instructions_0 : decode cX2_instructions 0 = .ok (.aload_n 0, 1) := by decide +kernel
theorem dX2_instructions_1 : decode cX2_instructions 1 = .ok (.iload_n 1, 1) := by decide +kernel
theorem dX2_instructions_2 : decode cX2_instructions 2 = .ok (.invokevirtual 120, 3) := by decide +kernel
theorem dX2_instructions_5 : decode cX2_instructions 5 = .ok (.getfield 142, 3) := by decide +kernel
theorem dX2_instructions_8 : decode cX2_instructions 8 = .ok (.arraylength, 1) := by decide +kernel
theorem dX2_instructions_9 : decode cX2_instructions 9 = .ok (.ireturn, 1) := by decide +kernel
set_option maxRecDepth 20000 in
theorem ggX2_instruction_X2_patchOf : GoodIn wsX2_instruction wsX2_patchOf := goodIn_ca (goodIn_r _ [8, 1, 2, 9, 10, 11, 12, 13, 14, 15, 16, 17, 18, 19, 20, 21, 22, 23, 24, 25, 26, 27, 28, 29, 30, 31, 32, 33, 55, 56, 57, 58, 59, 60, 61, 62, 63, 64, 65] (by decide +kernel) (by decide +kernel)) (goodIn_sub (fun _ h => List.mem_cons_of_mem _ (List.mem_append_right _ h)) (by decide +kernel))
set_option maxRecDepth 20000 in
theorem gX2_instruction_X2_patchOf : GoodIn wsX2_instruction (wsV RX2 120 RX2 yX2_patchOf wsX2_patchOf) := goodIn_app (goodIn_of _ (by decide +kernel)) ggX2_instruction_X2_patchOf
set_option maxRecDepth 20000 in
theorem ggX2_instruction_X0_tell : GoodIn wsX2_instruction wsX0_tell := goodIn_r _ [38, 39, 40, 41, 42, 43, 44, 45, 46, 47, 48, 49, 50, 51, 52, 53, 54, 66] (by decide +kernel) (by decide +kernel)
set_option maxRecDepth 20000 in
theorem gX2_instruction_X0_tell : GoodIn wsX2_instruction (wsV RX2 149 RX0 yX0_tell wsX0_tell) := goodIn_app (goodIn_of _ (by decide +kernel)) ggX2_instruction_X0_tell
theorem dX2_instruction_0 : decode cX2_instruction 0 = .ok (.aload_n 0, 1) := by decide +kernel
end
section
theorem dX2_instruction_1 : decode cX2_instruction 1 = .ok (.iload_n 1, 1) := by decide +kernel
theorem dX2_instruction_2 : decode cX2_instruction 2 = .ok (.invokevirtual 120, 3) := by decide +kernel
theorem dX2_instruction_5 : decode cX2_instruction 5 = .ok (.astore 4, 2) := by decide +kernel
theorem dX2_instruction_7 : decode cX2_instruction 7 = .ok (.iload_n 2, 1) := by decide +kernel
theorem dX2_instruction_8 : decode cX2_instruction 8 = .ok (.ifCond .lt 13, 3) := by decide +kernel
theorem dX2_instruction_11 : decode cX2_instruction 11 = .ok (.iload_n 2, 1) := by decide +kernel
theorem dX2_instruction_12 : decode cX2_instruction 12 = .ok (.aload 4, 2) := by decide +kernel
theorem dX2_instruction_14 : decode cX2_instruction 14 = .ok (.getfield 142, 3) := by decide +kernel
theorem dX2_instruction_17 : decode cX2_instruction 17 = .ok (.arraylength, 1) := by decide +kernel
theorem dX2_instruction_18 : decode cX2_instruction 18 = .ok (.if_icmp .lt 13, 3) := by decide +kernel
theorem dX2_instruction_21 : decode cX2_instruction 21 = .ok (.new 75, 3) := by decide +kernel
theorem dX2_instruction_24 : decode cX2_instruction 24 = .ok (.dup, 1) := by decide +kernel
theorem dX2_instruction_25 : decode cX2_instruction 25 = .ok (.ldc 145, 2) := by decide +kernel
theorem dX2_instruction_27 : decode cX2_instruction 27 = .ok (.invokespecial 79, 3) := by decide +kernel
theorem dX2_instruction_30 : decode cX2_instruction 30 = .ok (.athrow, 1) := by decide +kernel
theorem dX2_instruction_31 : decode cX2_instruction 31 = .ok (.iload_n 3, 1) := by decide +kernel
theorem dX2_instruction_32 : decode cX2_instruction 32 = .ok (.ifCond .lt 8, 3) := by decide +kernel
theorem dX2_instruction_35 : decode cX2_instruction 35 = .ok (.iload_n 3, 1) := by decide +kernel
theorem dX2_instruction_36 : decode cX2_instruction 36 = .ok (.iconst 3, 1) := by decide +kernel
theorem dX2_instruction_37 : decode cX2_instruction 37 = .ok (.if_icmp .le 13, 3) := by decide +kernel
theorem dX2_instruction_40 : decode cX2_instruction 40 = .ok (.new 75, 3) := by decide +kernel
theorem dX2_instruction_43 : decode cX2_instruction 43 = .ok (.dup, 1) := by decide +kernel
theorem dX2_instruction_44 : decode cX2_instruction 44 = .ok (.ldc 147, 2) := by decide +kernel
theorem dX2_instruction_46 : decode cX2_instruction 46 = .ok (.invokespecial 79, 3) := by decide +kernel
theorem dX2_instruction_49 : decode cX2_instruction 49 = .ok (.athrow, 1) := by decide +kernel
theorem dX2_instruction_50 : decode cX2_instruction 50 = .ok (.aload 4, 2) := by decide +kernel
theorem dX2_instruction_52 : decode cX2_instruction 52 = .ok (.iload_n 2, 1) := by decide +kernel
theorem dX2_instruction_53 : decode cX2_instruction 53 = .ok (.iload_n 3, 1) := by decide +kernel
theorem dX2_instruction_54 : decode cX2_instruction 54 = .ok (.invokevirtual 149, 3) := by decide +kernel
theorem dX2_instruction_57 : decode cX2_instruction 57 = .ok (.ireturn, 1) := by decide +kernel
set_option maxRecDepth 20000 in
theorem ggX2_cost_X2_patchOf : GoodIn wsX2_cost wsX2_patchOf := goodIn_ca (goodIn_r _ [6, 7, 8, 9, 10, 11, 12, 13, 14, 15, 16, 17, 18, 19, 20, 21, 22, 23, 24, 25, 26, 27, 28, 29, 30, 31, 32, 33, 41, 42, 43, 44, 45, 46, 47, 48, 49, 50, 51] (by decide +kernel) (by decide +kernel)) (goodIn_sub (fun _ h => List.mem_cons_of_mem _ (List.mem_append_right _ h)) (by decide +kernel))
set_option maxRecDepth 20000 in
theorem gX2_cost_X2_patchOf : GoodIn wsX2_cost (wsV RX2 120 RX2 yX2_patchOf wsX2_patchOf) := goodIn_app (goodIn_of _ (by decide +kernel)) ggX2_cost_X2_patchOf
theorem dX2_cost_0 : decode cX2_cost 0 = .ok (.aload_n 0, 1) := by decide +kernel
theorem dX2_cost_1 : decode cX2_cost 1 = .ok (.iload_n 1, 1) := by decide +kernel
theorem dX2_cost_2 : decode cX2_cost 2 = .ok (.invokevirtual 120, 3) := by decide +kernel
theorem dX2_cost_5 : decode cX2_cost 5 = .ok (.getfield 152, 3) := by decide +kernel
theorem dX2_cost_8 : decode cX2_cost 8 = .ok (.ireturn, 1) := by decide +kernel
set_option maxRecDepth 20000 in
theorem ggX2_newness_X2_patchOf : GoodIn wsX2_newness wsX2_patchOf := goodIn_ca (goodIn_r _ [7, 8, 9, 10, 11, 12, 13, 14, 15, 16, 17, 18, 19, 20, 21, 22, 23, 24, 25, 26, 27, 28, 29, 30, 31, 32, 33, 34, 42, 43, 44, 45, 46, 47, 48, 49, 50, 51, 52] (by decide +kernel) (by decide +kernel)) (goodIn_sub (fun _ h => List.mem_cons_of_mem _ (List.mem_append_right _ h)) (by decide +kernel))
set_option maxRecDepth 20000 in
theorem gX2_newness_X2_patchOf : GoodIn wsX2_newness (wsV RX2 120 RX2 yX2_patchOf wsX2_patchOf) := goodIn_app (goodIn_of _ (by decide +kernel)) ggX2_newness_X2_patchOf
theorem dX2_newness_0 : decode cX2_newness 0 = .ok (.aload_n 0, 1) := by decide +kernel
theorem dX2_newness_1 : decode cX2_newness 1 = .ok (.iload_n 1, 1) := by decide +kernel
theorem dX2_newness_2 : decode cX2_newness 2 = .ok (.invokevirtual 120, 3) := by decide +kernel
theorem dX2_newness_5 : decode cX2_newness 5 = .ok (.astore_n 2, 1) := by decide +kernel
theorem dX2_newness_6 : decode cX2_newness 6 = .ok (.aload_n 2, 1) := by decide +kernel
theorem dX2_newness_7 : decode cX2_newness 7 = .ok (.getfield 132, 3) := by decide +kernel
theorem dX2_newness_10 : decode cX2_newness 10 = .ok (.arraylength, 1) := by decide +kernel
theorem dX2_newness_11 : decode cX2_newness 11 = .ok (.istore_n 3, 1) := by decide +kernel
theorem dX2_newness_12 : decode cX2_newness 12 = .ok (.iload_n 3, 1) := by decide +kernel
theorem dX2_newness_13 : decode cX2_newness 13 = .ok (.ifCond .ne 7, 3) := by decide +kernel
theorem dX2_newness_16 : decode cX2_newness 16 = .ok (.dconst 0, 1) := by decide +kernel
theorem dX2_newness_17 : decode cX2_newness 17 = .ok (.goto 11, 3) := by decide +kernel
theorem dX2_newness_20 : decode cX2_newness 20 = .ok (.aload_n 2, 1) := by decide +kernel
theorem dX2_newness_21 : decode cX2_newness 21 = .ok (.getfield 155, 3) := by decide +kernel
theorem dX2_newness_24 : decode cX2_newness 24 = .ok (.i2d, 1) := by decide +kernel
theorem dX2_newness_25 : decode cX2_newness 25 = .ok (.iload_n 3, 1) := by decide +kernel
theorem dX2_newness_26 : decode cX2_newness 26 = .ok (.i2d, 1) := by decide +kernel
theorem dX2_newness_27 : decode cX2_newness 27 = .ok (.ddiv, 1) := by decide +kernel
theorem dX2_newness_28 : decode cX2_newness 28 = .ok (.dreturn, 1) := by decide +kernel
set_option maxRecDepth 20000 in
theorem ggX2_apply_X2_patchOf : GoodIn wsX2_apply wsX2_patchOf := goodIn_ca (goodIn_r _ [10, 11, 12, 13, 14, 15, 16, 17, 18, 19, 20, 21, 22, 23, 24, 25, 26, 27, 28, 29, 30, 31, 32, 33, 34, 35, 36, 37, 119, 120, 121, 122, 123, 124, 125, 126, 127, 128, 129] (by decide +kernel) (by decide +kernel)) (goodIn_sub (fun _ h => List.mem_cons_of_mem _ (List.mem_append_left _ (List.mem_append_right _ h))) (by decide +kernel))
set_option maxRecDepth 20000 in
theorem gX2_apply_X2_patchOf : GoodIn wsX2_apply (wsV RX2 120 RX2 yX2_patchOf wsX2_patchOf) := goodIn_app (goodIn_of _ (by decide +kernel)) ggX2_apply_X2_patchOf
set_option maxRecDepth 20000 in
theorem ggX2_apply_X2_rowOf : GoodIn wsX2_apply wsX2_rowOf := goodIn_ca (goodIn_r _ [41, 11, 12, 4, 42, 15, 16, 17, 18, 19, 20, 21, 22, 23, 24, 25, 26, 27, 28, 29, 30, 31, 32, 33, 34, 35, 36, 37, 119, 120, 121, 122, 123, 124, 125, 126, 127, 128, 129] (by decide +kernel) (by decide +kernel)) (goodIn_sub (fun _ h => List.mem_cons_of_mem _ (List.mem_append_left _ (List.mem_append_right _ h))) (by decide +kernel))
set_option maxRecDepth 20000 in
theorem gX2_apply_X2_rowOf : GoodIn wsX2_apply (wsV RX2 68 RX2 yX2_rowOf wsX2_rowOf) := goodIn_app (goodIn_of _ (by decide +kernel)) ggX2_apply_X2_rowOf
set_option maxRecDepth 20000 in
theorem ggX2_apply_X1_hasBytesOf : GoodIn wsX2_apply wsX1_hasBytesOf := goodIn_r _ [47, 48, 49, 50, 51, 46, 52, 130] (by decide +kernel) (by decide +kernel)
set_option maxRecDepth 20000 in
theorem gX2_apply_X1_hasBytesOf : GoodIn wsX2_apply (wsV RX2 80 RX1 yX1_hasBytesOf wsX1_hasBytesOf) := goodIn_app (goodIn_of _ (by decide +kernel)) ggX2_apply_X1_hasBytesOf
set_option maxRecDepth 20000 in
theorem ggX2_apply_X2_checkRoomForVersion : GoodIn wsX2_apply wsX2_checkRoomForVersion := goodIn_ca (goodIn_r _ [56, 57, 58, 4, 15, 16, 17, 18, 19, 20, 119, 120, 121, 122, 123, 124, 125, 126, 127, 128, 129] (by decide +kernel) (by decide +kernel)) (goodIn_sub (fun _ h => List.mem_cons_of_mem _ (List.mem_append_right _ h)) (by decide +kernel))
set_option maxRecDepth 20000 in
theorem gX2_apply_X2_checkRoomForVersion : GoodIn wsX2_apply (wsV RX2 57 RX2 yX2_checkRoomForVersion wsX2_checkRoomForVersion) := goodIn_app (goodIn_of _ (by decide +kernel)) ggX2_apply_X2_checkRoomForVersion
set_option maxRecDepth 20000 in
theorem ggX2_apply_Jx4a65c_add_9ea2d : GoodIn wsX2_apply wsJx4a65c_add_9ea2d := goodIn_r _ [62, 63, 64, 37, 20, 65, 66, 67, 18, 68, 69, 70, 71, 72, 73, 74, 75, 76, 77, 78, 79, 80, 81, 82, 83, 84, 85, 86, 87, 88, 89, 90, 91, 92, 93, 94, 95, 96, 97, 98, 99, 100, 101, 102, 103, 104, 105, 106, 107, 108, 109, 110, 111, 127, 128, 129] (by decide +kernel) (by decide +kernel)
set_option maxRecDepth 20000 in
theorem gX2_apply_Jx4a65c_add_9ea2d : GoodIn wsX2_apply (wsV RX2 60 RJx4a65c yJx4a65c_add_9ea2d wsJx4a65c_add_9ea2d) := goodIn_app (goodIn_of _ (by decide +kernel)) ggX2_apply_Jx4a65c_add_9ea2d
set_option maxRecDepth 20000 in
theorem ggX2_apply_Jx4a65c_size_8abf5 : GoodIn wsX2_apply wsJx4a65c_size_8abf5 := goodIn_r _ [19, 20, 127, 128, 129] (by decide +kernel) (by decide +kernel)
set_option maxRecDepth 20000 in
theorem gX2_apply_Jx4a65c_size_8abf5 : GoodIn wsX2_apply (wsV RX2 64 RJx4a65c yJx4a65c_size_8abf5 wsJx4a65c_size_8abf5) := goodIn_app (goodIn_of _ (by decide +kernel)) ggX2_apply_Jx4a65c_size_8abf5
theorem dX2_apply_0 : decode cX2_apply 0 = .ok (.aload_n 0, 1) := by decide +kernel
theorem dX2_apply_1 : decode cX2_apply 1 = .ok (.iload_n 1, 1) := by decide +kernel
theorem dX2_apply_2 : decode cX2_apply 2 = .ok (.invokevirtual 120, 3) := by decide +kernel
theorem dX2_apply_5 : decode cX2_apply 5 = .ok (.astore_n 3, 1) := by decide +kernel
theorem dX2_apply_6 : decode cX2_apply 6 = .ok (.aload_n 0, 1) := by decide +kernel
theorem dX2_apply_7 : decode cX2_apply 7 = .ok (.iload_n 2, 1) := by decide +kernel
theorem dX2_apply_8 : decode cX2_apply 8 = .ok (.invokevirtual 68, 3) := by decide +kernel
theorem dX2_apply_11 : decode cX2_apply 11 = .ok (.astore 4, 2) := by decide +kernel
theorem dX2_apply_13 : decode cX2_apply 13 = .ok (.aload 4, 2) := by decide +kernel
theorem dX2_apply_15 : decode cX2_apply 15 = .ok (.aload_n 0, 1) := by decide +kernel
theorem dX2_apply_16 : decode cX2_apply 16 = .ok (.aload_n 3, 1) := by decide +kernel
theorem dX2_apply_17 : decode cX2_apply 17 = .ok (.getfield 127, 3) := by decide +kernel
theorem dX2_apply_20 : decode cX2_apply 20 = .ok (.invokevirtual 68, 3) := by decide +kernel
theorem dX2_apply_23 : decode cX2_apply 23 = .ok (.invokevirtual 80, 3) := by decide +kernel
theorem dX2_apply_26 : decode cX2_apply 26 = .ok (.ifCond .ne 13, 3) := by decide +kernel
theorem dX2_apply_29 : decode cX2_apply 29 = .ok (.new 45, 3) := by decide +kernel
theorem dX2_apply_32 : decode cX2_apply 32 = .ok (.dup, 1) := by decide +kernel
theorem dX2_apply_33 : decode cX2_apply 33 = .ok (.ldc 158, 2) := by decide +kernel
theorem dX2_apply_35 : decode cX2_apply 35 = .ok (.invokespecial 49, 3) := by decide +kernel
theorem dX2_apply_38 : decode cX2_apply 38 = .ok (.athrow, 1) := by decide +kernel
theorem dX2_apply_39 : decode cX2_apply 39 = .ok (.aload_n 0, 1) := by decide +kernel
theorem dX2_apply_40 : decode cX2_apply 40 = .ok (.invokevirtual 57, 3) := by decide +kernel
theorem dX2_apply_43 : decode cX2_apply 43 = .ok (.aload_n 0, 1) := by decide +kernel
theorem dX2_apply_44 : decode cX2_apply 44 = .ok (.getfield 20, 3) := by decide +kernel
theorem dX2_apply_47 : decode cX2_apply 47 = .ok (.aload_n 3, 1) := by decide +kernel
theorem dX2_apply_48 : decode cX2_apply 48 = .ok (.getfield 139, 3) := by decide +kernel
theorem dX2_apply_51 : decode cX2_apply 51 = .ok (.invokevirtual 60, 3) := by decide +kernel
theorem dX2_apply_54 : decode cX2_apply 54 = .ok (.pop, 1) := by decide +kernel
theorem dX2_apply_55 : decode cX2_apply 55 = .ok (.aload_n 0, 1) := by decide +kernel
theorem dX2_apply_56 : decode cX2_apply 56 = .ok (.getfield 20, 3) := by decide +kernel
theorem dX2_apply_59 : decode cX2_apply 59 = .ok (.invokevirtual 64, 3) := by decide +kernel
theorem dX2_apply_62 : decode cX2_apply 62 = .ok (.iconst 1, 1) := by decide +kernel
theorem dX2_apply_63 : decode cX2_apply 63 = .ok (.isub, 1) := by decide +kernel
theorem dX2_apply_64 : decode cX2_apply 64 = .ok (.ireturn, 1) := by decide +kernel
set_option maxRecDepth 20000 in
theorem ggX2_steps_X2_leastWay : GoodIn wsX2_steps wsX2_leastWay := goodIn_ca (goodIn_r _ [5, 6, 7, 8, 9, 10, 11, 12, 4, 13, 14, 15, 16, 17, 18, 19, 20, 21, 22, 23, 24, 25, 26, 27, 28, 29, 30, 31, 32, 33, 34, 35, 36, 37, 38, 39, 40, 41, 42, 43, 44, 45, 46, 47, 48, 49, 50, 51, 52, 53, 54, 55, 56, 57, 58, 59, 60, 61, 62, 63, 64, 65, 66, 67, 68, 69, 70, 71, 72, 73, 74, 75, 76, 77, 78, 79, 80, 81, 82, 83] (by decide +kernel) (by decide +kernel)) (goodIn_sub (fun _ h => List.mem_cons_of_mem _ (List.mem_append_right _ h)) (by decide +kernel))
set_option maxRecDepth 20000 in
theorem gX2_steps_X2_leastWay : GoodIn wsX2_steps (wsV RX2 160 RX2 yX2_leastWay wsX2_leastWay) := goodIn_app (goodIn_of _ (by decide +kernel)) ggX2_steps_X2_leastWay
theorem dX2_steps_0 : decode cX2_steps 0 = .ok (.aload_n 0, 1) := by decide +kernel
theorem dX2_steps_1 : decode cX2_steps 1 = .ok (.iload_n 1, 1) := by decide +kernel
theorem dX2_steps_2 : decode cX2_steps 2 = .ok (.iload_n 2, 1) := by decide +kernel
theorem dX2_steps_3 : decode cX2_steps 3 = .ok (.iconst 0, 1) := by decide +kernel
theorem dX2_steps_4 : decode cX2_steps 4 = .ok (.invokevirtual 160, 3) := by decide +kernel
theorem dX2_steps_7 : decode cX2_steps 7 = .ok (.ireturn, 1) := by decide +kernel
set_option maxRecDepth 20000 in
theorem ggX2_leastCost_X2_leastWay : GoodIn wsX2_leastCost wsX2_leastWay := goodIn_ca (goodIn_r _ [5, 6, 7, 8, 9, 10, 11, 12, 4, 13, 14, 15, 16, 17, 18, 19, 20, 21, 22, 23, 24, 25, 26, 27, 28, 29, 30, 31, 32, 33, 34, 35, 36, 37, 38, 39, 40, 41, 42, 43, 44, 45, 46, 47, 48, 49, 50, 51, 52, 53, 54, 55, 56, 57, 58, 59, 60, 61, 62, 63, 64, 65, 66, 67, 68, 69, 70, 71, 72, 73, 74, 75, 76, 77, 78, 79, 80, 81, 82, 83] (by decide +kernel) (by decide +kernel)) (goodIn_sub (fun _ h => List.mem_cons_of_mem _ (List.mem_append_right _ h)) (by decide +kernel))
set_option maxRecDepth 20000 in
theorem gX2_leastCost_X2_leastWay : GoodIn wsX2_leastCost (wsV RX2 160 RX2 yX2_leastWay wsX2_leastWay) := goodIn_app (goodIn_of _ (by decide +kernel)) ggX2_leastCost_X2_leastWay
theorem dX2_leastCost_0 : decode cX2_leastCost 0 = .ok (.aload_n 0, 1) := by decide +kernel
theorem dX2_leastCost_1 : decode cX2_leastCost 1 = .ok (.iload_n 1, 1) := by decide +kernel
theorem dX2_leastCost_2 : decode cX2_leastCost 2 = .ok (.iload_n 2, 1) := by decide +kernel
theorem dX2_leastCost_3 : decode cX2_leastCost 3 = .ok (.iconst 1, 1) := by decide +kernel
theorem dX2_leastCost_4 : decode cX2_leastCost 4 = .ok (.invokevirtual 160, 3) := by decide +kernel
theorem dX2_leastCost_7 : decode cX2_leastCost 7 = .ok (.ireturn, 1) := by decide +kernel
set_option maxRecDepth 20000 in
theorem ggX2_installVersion_X2_rowOf : GoodIn wsX2_installVersion wsX2_rowOf := goodIn_ca (goodIn_r _ [5, 6, 7, 8, 9, 10, 11, 12, 13, 14, 15, 16, 17, 18, 19, 20, 21, 22, 23, 24, 25, 26, 27, 28, 29, 30, 31, 32, 101, 102, 103, 104, 105, 106, 107, 108, 109, 110, 111] (by decide +kernel) (by decide +kernel)) (goodIn_sub (fun _ h => List.mem_cons_of_mem _ (List.mem_append_right _ h)) (by decide +kernel))
set_option maxRecDepth 20000 in
theorem gX2_installVersion_X2_rowOf : GoodIn wsX2_installVersion (wsV RX2 68 RX2 yX2_rowOf wsX2_rowOf) := goodIn_app (goodIn_of _ (by decide +kernel)) ggX2_installVersion_X2_rowOf
set_option maxRecDepth 20000 in
theorem ggX2_installVersion_X2_install : GoodIn wsX2_installVersion wsX2_install := goodIn_r _ [36, 37, 38, 10, 11, 12, 13, 14, 15, 39, 40, 41, 42, 32, 20, 21, 22, 23, 24, 25, 26, 27, 43, 44, 45, 46, 47, 48, 49, 50, 51, 52, 53, 54, 55, 56, 57, 58, 59, 60, 61, 62, 63, 64, 65, 66, 67, 68, 69, 70, 71, 72, 73, 74, 75, 76, 77, 78, 79, 80, 81, 82, 83, 84, 85, 86, 87, 88, 89, 90, 91, 92, 93, 94, 95, 96, 97, 98, 99, 100, 101, 102, 103, 104, 105, 106, 107, 108, 109, 110, 111] (by decide +kernel) (by decide +kernel)
set_option maxRecDepth 20000 in
theorem gX2_installVersion_X2_install : GoodIn wsX2_installVersion (wsV RX2 164 RX2 yX2_install wsX2_install) := goodIn_app (goodIn_of _ (by decide +kernel)) ggX2_installVersion_X2_install
theorem dX2_installVersion_0 : decode cX2_installVersion 0 = .ok (.aload_n 0, 1) := by decide +kernel
theorem dX2_installVersion_1 : decode cX2_installVersion 1 = .ok (.aload_n 0, 1) := by decide +kernel
theorem dX2_installVersion_2 : decode cX2_installVersion 2 = .ok (.iload_n 1, 1) := by decide +kernel
theorem dX2_installVersion_3 : decode cX2_installVersion 3 = .ok (.invokevirtual 68, 3) := by decide +kernel
theorem dX2_installVersion_6 : decode cX2_installVersion 6 = .ok (.invokevirtual 164, 3) := by decide +kernel
theorem dX2_installVersion_9 : decode cX2_installVersion 9 = .ok (.ireturn, 1) := by decide +kernel
set_option maxRecDepth 20000 in
theorem ggX2_installPatch_X2_patchOf : GoodIn wsX2_installPatch wsX2_patchOf := goodIn_ca (goodIn_r _ [10, 11, 12, 13, 14, 15, 16, 17, 18, 19, 20, 21, 22, 23, 24, 25, 26, 27, 28, 29, 30, 31, 32, 33, 34, 35, 36, 37, 121, 122, 123, 124, 125, 126, 127, 128, 136, 137, 138] (by decide +kernel) (by decide +kernel)) (goodIn_sub (fun _ h => List.mem_cons_of_mem _ (List.mem_append_right _ h)) (by decide +kernel))
set_option maxRecDepth 20000 in
theorem gX2_installPatch_X2_patchOf : GoodIn wsX2_installPatch (wsV RX2 120 RX2 yX2_patchOf wsX2_patchOf) := goodIn_app (goodIn_of _ (by decide +kernel)) ggX2_installPatch_X2_patchOf
set_option maxRecDepth 20000 in
theorem ggX2_installPatch_X2_rowOf : GoodIn wsX2_installPatch wsX2_rowOf := goodIn_ca (goodIn_r _ [41, 11, 12, 42, 43, 15, 16, 17, 18, 19, 20, 21, 22, 23, 24, 25, 26, 27, 28, 29, 30, 31, 32, 33, 34, 35, 36, 37, 121, 122, 123, 124, 125, 126, 127, 128, 136, 137, 138] (by decide +kernel) (by decide +kernel)) (goodIn_sub (fun _ h => List.mem_cons_of_mem _ (List.mem_append_right _ h)) (by decide +kernel))
set_option maxRecDepth 20000 in
theorem gX2_installPatch_X2_rowOf : GoodIn wsX2_installPatch (wsV RX2 68 RX2 yX2_rowOf wsX2_rowOf) := goodIn_app (goodIn_of _ (by decide +kernel)) ggX2_installPatch_X2_rowOf
set_option maxRecDepth 20000 in
theorem ggX2_installPatch_X1_hasBytesOf : GoodIn wsX2_installPatch wsX1_hasBytesOf := goodIn_r _ [48, 49, 50, 51, 52, 47, 53, 139] (by decide +kernel) (by decide +kernel)
set_option maxRecDepth 20000 in
theorem gX2_installPatch_X1_hasBytesOf : GoodIn wsX2_installPatch (wsV RX2 80 RX1 yX1_hasBytesOf wsX1_hasBytesOf) := goodIn_app (goodIn_of _ (by decide +kernel)) ggX2_installPatch_X1_hasBytesOf
set_option maxRecDepth 20000 in
theorem ggX2_installPatch_X2_install : GoodIn wsX2_installPatch wsX2_install := goodIn_r _ [57, 58, 3, 15, 16, 17, 18, 19, 20, 59, 60, 61, 62, 37, 25, 26, 27, 28, 29, 30, 31, 32, 63, 64, 65, 66, 67, 68, 69, 70, 71, 72, 73, 74, 75, 76, 77, 78, 79, 80, 81, 82, 83, 84, 85, 86, 87, 88, 89, 90, 91, 92, 93, 94, 95, 96, 97, 98, 99, 100, 101, 102, 103, 104, 105, 106, 107, 108, 109, 110, 111, 112, 113, 114, 115, 116, 117, 118, 119, 120, 121, 122, 123, 124, 125, 126, 127, 128, 136, 137, 138] (by decide +kernel) (by decide +kernel)
set_option maxRecDepth 20000 in
theorem gX2_installPatch_X2_install : GoodIn wsX2_installPatch (wsV RX2 164 RX2 yX2_install wsX2_install) := goodIn_app (goodIn_of _ (by decide +kernel)) ggX2_installPatch_X2_install
theorem dX2_installPatch_0 : decode cX2_installPatch 0 = .ok (.aload_n 0, 1) := by decide +kernel
theorem dX2_installPatch_1 : decode cX2_installPatch 1 = .ok (.iload_n 1, 1) := by decide +kernel
theorem dX2_installPatch_2 : decode cX2_installPatch 2 = .ok (.invokevirtual 120, 3) := by decide +kernel
theorem dX2_installPatch_5 : decode cX2_installPatch 5 = .ok (.astore_n 2, 1) := by decide +kernel
theorem dX2_installPatch_6 : decode cX2_installPatch 6 = .ok (.aload_n 0, 1) := by decide +kernel
theorem dX2_installPatch_7 : decode cX2_installPatch 7 = .ok (.getfield 32, 3) := by decide +kernel
theorem dX2_installPatch_10 : decode cX2_installPatch 10 = .ok (.aload_n 0, 1) := by decide +kernel
theorem dX2_installPatch_11 : decode cX2_installPatch 11 = .ok (.aload_n 2, 1) := by decide +kernel
theorem dX2_installPatch_12 : decode cX2_installPatch 12 = .ok (.getfield 127, 3) := by decide +kernel
theorem dX2_installPatch_15 : decode cX2_installPatch 15 = .ok (.invokevirtual 68, 3) := by decide +kernel
theorem dX2_installPatch_18 : decode cX2_installPatch 18 = .ok (.invokevirtual 80, 3) := by decide +kernel
theorem dX2_installPatch_21 : decode cX2_installPatch 21 = .ok (.ifCond .ne 13, 3) := by decide +kernel
theorem dX2_installPatch_24 : decode cX2_installPatch 24 = .ok (.new 45, 3) := by decide +kernel
theorem dX2_installPatch_27 : decode cX2_installPatch 27 = .ok (.dup, 1) := by decide +kernel
theorem dX2_installPatch_28 : decode cX2_installPatch 28 = .ok (.ldc 168, 2) := by decide +kernel
theorem dX2_installPatch_30 : decode cX2_installPatch 30 = .ok (.invokespecial 49, 3) := by decide +kernel
theorem dX2_installPatch_33 : decode cX2_installPatch 33 = .ok (.athrow, 1) := by decide +kernel
theorem dX2_installPatch_34 : decode cX2_installPatch 34 = .ok (.aload_n 0, 1) := by decide +kernel
theorem dX2_installPatch_35 : decode cX2_installPatch 35 = .ok (.aload_n 2, 1) := by decide +kernel
theorem dX2_installPatch_36 : decode cX2_installPatch 36 = .ok (.getfield 139, 3) := by decide +kernel
theorem dX2_installPatch_39 : decode cX2_installPatch 39 = .ok (.invokevirtual 164, 3) := by decide +kernel
theorem dX2_installPatch_42 : decode cX2_installPatch 42 = .ok (.ireturn, 1) := by decide +kernel
set_option maxRecDepth 20000 in
theorem ggX2_rollBack_Jx4a65c_size_8abf5 : GoodIn wsX2_rollBack wsJx4a65c_size_8abf5 := goodIn_r _ [10, 11, 51, 52, 53] (by decide +kernel) (by decide +kernel)
set_option maxRecDepth 20000 in
theorem gX2_rollBack_Jx4a65c_size_8abf5 : GoodIn wsX2_rollBack (wsV RX2 64 RJx4a65c yJx4a65c_size_8abf5 wsJx4a65c_size_8abf5) := goodIn_app (goodIn_of _ (by decide +kernel)) ggX2_rollBack_Jx4a65c_size_8abf5
set_option maxRecDepth 20000 in
theorem ggX2_rollBack_Jx4a65c_get_915e3 : GoodIn wsX2_rollBack wsJx4a65c_get_915e3 := goodIn_r _ [15, 11, 16, 17, 18, 19, 20, 21, 22, 23, 24, 25, 26, 9, 27, 28, 51, 52, 53] (by decide +kernel) (by decide +kernel)
set_option maxRecDepth 20000 in
theorem gX2_rollBack_Jx4a65c_get_915e3 : GoodIn wsX2_rollBack (wsV RX2 172 RJx4a65c yJx4a65c_get_915e3 wsJx4a65c_get_915e3) := goodIn_app (goodIn_of _ (by decide +kernel)) ggX2_rollBack_Jx4a65c_get_915e3
set_option maxRecDepth 20000 in
theorem ggX2_rollBack_Jx4a65c_remove_915e3 : GoodIn wsX2_rollBack wsJx4a65c_remove_915e3 := goodIn_r _ [32, 11, 28, 16, 17, 18, 19, 20, 21, 22, 23, 33, 34, 35, 9, 36, 37, 38, 39, 40, 41, 42, 51, 52, 53] (by decide +kernel) (by decide +kernel)
set_option maxRecDepth 20000 in
theorem gX2_rollBack_Jx4a65c_remove_915e3 : GoodIn wsX2_rollBack (wsV RX2 176 RJx4a65c yJx4a65c_remove_915e3 wsJx4a65c_remove_915e3) := goodIn_app (goodIn_of _ (by decide +kernel)) ggX2_rollBack_Jx4a65c_remove_915e3
theorem dX2_rollBack_0 : decode cX2_rollBack 0 = .ok (.aload_n 0, 1) := by decide +kernel
theorem dX2_rollBack_1 : decode cX2_rollBack 1 = .ok (.getfield 36, 3) := by decide +kernel
theorem dX2_rollBack_4 : decode cX2_rollBack 4 = .ok (.invokevirtual 64, 3) := by decide +kernel
theorem dX2_rollBack_7 : decode cX2_rollBack 7 = .ok (.iconst 1, 1) := by decide +kernel
theorem dX2_rollBack_8 : decode cX2_rollBack 8 = .ok (.isub, 1) := by decide +kernel
theorem dX2_rollBack_9 : decode cX2_rollBack 9 = .ok (.istore_n 1, 1) := by decide +kernel
theorem dX2_rollBack_10 : decode cX2_rollBack 10 = .ok (.iload_n 1, 1) := by decide +kernel
theorem dX2_rollBack_11 : decode cX2_rollBack 11 = .ok (.ifCond .ge 13, 3) := by decide +kernel
theorem dX2_rollBack_14 : decode cX2_rollBack 14 = .ok (.new 52, 3) := by decide +kernel
theorem dX2_rollBack_17 : decode cX2_rollBack 17 = .ok (.dup, 1) := by decide +kernel
theorem dX2_rollBack_18 : decode cX2_rollBack 18 = .ok (.ldc 170, 2) := by decide +kernel
theorem dX2_rollBack_20 : decode cX2_rollBack 20 = .ok (.invokespecial 56, 3) := by decide +kernel
theorem dX2_rollBack_23 : decode cX2_rollBack 23 = .ok (.athrow, 1) := by decide +kernel
theorem dX2_rollBack_24 : decode cX2_rollBack 24 = .ok (.aload_n 0, 1) := by decide +kernel
theorem dX2_rollBack_25 : decode cX2_rollBack 25 = .ok (.aload_n 0, 1) := by decide +kernel
theorem dX2_rollBack_26 : decode cX2_rollBack 26 = .ok (.getfield 36, 3) := by decide +kernel
theorem dX2_rollBack_29 : decode cX2_rollBack 29 = .ok (.iload_n 1, 1) := by decide +kernel
theorem dX2_rollBack_30 : decode cX2_rollBack 30 = .ok (.invokevirtual 172, 3) := by decide +kernel
theorem dX2_rollBack_33 : decode cX2_rollBack 33 = .ok (.checkcast 27, 3) := by decide +kernel
theorem dX2_rollBack_36 : decode cX2_rollBack 36 = .ok (.putfield 32, 3) := by decide +kernel
theorem dX2_rollBack_39 : decode cX2_rollBack 39 = .ok (.aload_n 0, 1) := by decide +kernel
theorem dX2_rollBack_40 : decode cX2_rollBack 40 = .ok (.getfield 36, 3) := by decide +kernel
theorem dX2_rollBack_43 : decode cX2_rollBack 43 = .ok (.iload_n 1, 1) := by decide +kernel
theorem dX2_rollBack_44 : decode cX2_rollBack 44 = .ok (.invokevirtual 176, 3) := by decide +kernel
theorem dX2_rollBack_47 : decode cX2_rollBack 47 = .ok (.pop, 1) := by decide +kernel
theorem dX2_rollBack_48 : decode cX2_rollBack 48 = .ok (.iload_n 1, 1) := by decide +kernel
theorem dX2_rollBack_49 : decode cX2_rollBack 49 = .ok (.ireturn, 1) := by decide +kernel
set_option maxRecDepth 20000 in
theorem ggX2_isInstalled_X2_rowOf : GoodIn wsX2_isInstalled wsX2_rowOf := goodIn_ca (goodIn_r _ [6, 7, 8, 9, 10, 11, 12, 13, 14, 15, 16, 17, 18, 19, 20, 21, 22, 23, 24, 25, 26, 27, 28, 29, 30, 31, 32, 33, 44, 45, 46, 47, 48, 49, 50, 51, 52, 53, 54] (by decide +kernel) (by decide +kernel)) (goodIn_sub (fun _ h => List.mem_cons_of_mem _ (List.mem_append_right _ h)) (by decide +kernel))
set_option maxRecDepth 20000 in
theorem gX2_isInstalled_X2_rowOf : GoodIn wsX2_isInstalled (wsV RX2 68 RX2 yX2_rowOf wsX2_rowOf) := goodIn_app (goodIn_of _ (by decide +kernel)) ggX2_isInstalled_X2_rowOf
set_option maxRecDepth 20000 in
theorem ggX2_isInstalled_X1_hasBytesOf : GoodIn wsX2_isInstalled wsX1_hasBytesOf := goodIn_r _ [38, 39, 40, 41, 42, 37, 43, 55] (by decide +kernel) (by decide +kernel)
set_option maxRecDepth 20000 in
theorem gX2_isInstalled_X1_hasBytesOf : GoodIn wsX2_isInstalled (wsV RX2 80 RX1 yX1_hasBytesOf wsX1_hasBytesOf) := goodIn_app (goodIn_of _ (by decide +kernel)) ggX2_isInstalled_X1_hasBytesOf
theorem dX2_isInstalled_0 : decode cX2_isInstalled 0 = .ok (.aload_n 0, 1) := by decide +kernel
theorem dX2_isInstalled_1 : decode cX2_isInstalled 1 = .ok (.iload_n 1, 1) := by decide +kernel
theorem dX2_isInstalled_2 : decode cX2_isInstalled 2 = .ok (.invokevirtual 68, 3) := by decide +kernel
theorem dX2_isInstalled_5 : decode cX2_isInstalled 5 = .ok (.aload_n 0, 1) := by decide +kernel
theorem dX2_isInstalled_6 : decode cX2_isInstalled 6 = .ok (.getfield 32, 3) := by decide +kernel
theorem dX2_isInstalled_9 : decode cX2_isInstalled 9 = .ok (.invokevirtual 80, 3) := by decide +kernel
theorem dX2_isInstalled_12 : decode cX2_isInstalled 12 = .ok (.ireturn, 1) := by decide +kernel
theorem dX2_installedLength_0 : decode cX2_installedLength 0 = .ok (.aload_n 0, 1) := by decide +kernel
theorem dX2_installedLength_1 : decode cX2_installedLength 1 = .ok (.getfield 32, 3) := by decide +kernel
theorem dX2_installedLength_4 : decode cX2_installedLength 4 = .ok (.getfield 72, 3) := by decide +kernel
theorem dX2_installedLength_7 : decode cX2_installedLength 7 = .ok (.arraylength, 1) := by decide +kernel
theorem dX2_installedLength_8 : decode cX2_installedLength 8 = .ok (.ireturn, 1) := by decide +kernel
set_option maxRecDepth 20000 in
theorem ggX2_digest_X2_digestOfBytes : GoodIn wsX2_digest wsX2_digestOfBytes := goodIn_r _ [15, 4] (by decide +kernel) (by decide +kernel)
set_option maxRecDepth 20000 in
theorem gX2_digest_X2_digestOfBytes : GoodIn wsX2_digest (va_wsS RX2 181 yX2_digestOfBytes wsX2_digestOfBytes) := goodIn_app (goodIn_of _ (by decide +kernel)) ggX2_digest_X2_digestOfBytes
set_option maxRecDepth 20000 in
theorem ggX2_digest_Jx4a65c_size_8abf5 : GoodIn wsX2_digest wsJx4a65c_size_8abf5 := goodIn_r _ [20, 21, 66, 67, 68] (by decide +kernel) (by decide +kernel)
set_option maxRecDepth 20000 in
theorem gX2_digest_Jx4a65c_size_8abf5 : GoodIn wsX2_digest (wsV RX2 64 RJx4a65c yJx4a65c_size_8abf5 wsJx4a65c_size_8abf5) := goodIn_app (goodIn_of _ (by decide +kernel)) ggX2_digest_Jx4a65c_size_8abf5
set_option maxRecDepth 20000 in
theorem ggX2_digest_Jx4a65c_get_915e3 : GoodIn wsX2_digest wsJx4a65c_get_915e3 := goodIn_r _ [25, 21, 26, 27, 28, 29, 30, 31, 32, 33, 34, 35, 36, 19, 37, 38, 66, 67, 68] (by decide +kernel) (by decide +kernel)
set_option maxRecDepth 20000 in
theorem gX2_digest_Jx4a65c_get_915e3 : GoodIn wsX2_digest (wsV RX2 172 RJx4a65c yJx4a65c_get_915e3 wsJx4a65c_get_915e3) := goodIn_app (goodIn_of _ (by decide +kernel)) ggX2_digest_Jx4a65c_get_915e3
set_option maxRecDepth 20000 in
theorem ggX2_digest_X2_digestOfPatch : GoodIn wsX2_digest wsX2_digestOfPatch := goodIn_r _ [41, 4, 42, 43, 44, 45, 46, 47, 48, 49, 50, 51, 52, 53, 54, 55, 56, 69, 70, 71, 72, 73, 74, 75, 65] (by decide +kernel) (by decide +kernel)
set_option maxRecDepth 20000 in
theorem gX2_digest_X2_digestOfPatch : GoodIn wsX2_digest (va_wsS RX2 187 yX2_digestOfPatch wsX2_digestOfPatch) := goodIn_app (goodIn_of _ (by decide +kernel)) ggX2_digest_X2_digestOfPatch
theorem dX2_digest_0 : decode cX2_digest 0 = .ok (.ldc2_w 179, 3) := by decide +kernel
theorem dX2_digest_3 : decode cX2_digest 3 = .ok (.aload_n 0, 1) := by decide +kernel
theorem dX2_digest_4 : decode cX2_digest 4 = .ok (.getfield 9, 3) := by decide +kernel
theorem dX2_digest_7 : decode cX2_digest 7 = .ok (.aload_n 0, 1) := by decide +kernel
theorem dX2_digest_8 : decode cX2_digest 8 = .ok (.getfield 13, 3) := by decide +kernel
theorem dX2_digest_11 : decode cX2_digest 11 = .ok (.invokestatic 181, 3) := by decide +kernel
theorem dX2_digest_14 : decode cX2_digest 14 = .ok (.lstore_n 1, 1) := by decide +kernel
theorem dX2_digest_15 : decode cX2_digest 15 = .ok (.lload_n 1, 1) := by decide +kernel
theorem dX2_digest_16 : decode cX2_digest 16 = .ok (.ldc2_w 185, 3) := by decide +kernel
theorem dX2_digest_19 : decode cX2_digest 19 = .ok (.lmul, 1) := by decide +kernel
theorem dX2_digest_20 : decode cX2_digest 20 = .ok (.aload_n 0, 1) := by decide +kernel
theorem dX2_digest_21 : decode cX2_digest 21 = .ok (.getfield 20, 3) := by decide +kernel
theorem dX2_digest_24 : decode cX2_digest 24 = .ok (.invokevirtual 64, 3) := by decide +kernel
theorem dX2_digest_27 : decode cX2_digest 27 = .ok (.i2l, 1) := by decide +kernel
theorem dX2_digest_28 : decode cX2_digest 28 = .ok (.ladd, 1) := by decide +kernel
theorem dX2_digest_29 : decode cX2_digest 29 = .ok (.lstore_n 1, 1) := by decide +kernel
theorem dX2_digest_30 : decode cX2_digest 30 = .ok (.iconst 0, 1) := by decide +kernel
theorem dX2_digest_31 : decode cX2_digest 31 = .ok (.istore_n 3, 1) := by decide +kernel
theorem dX2_digest_32 : decode cX2_digest 32 = .ok (.iload_n 3, 1) := by decide +kernel
theorem dX2_digest_33 : decode cX2_digest 33 = .ok (.aload_n 0, 1) := by decide +kernel
theorem dX2_digest_34 : decode cX2_digest 34 = .ok (.getfield 20, 3) := by decide +kernel
theorem dX2_digest_37 : decode cX2_digest 37 = .ok (.invokevirtual 64, 3) := by decide +kernel
theorem dX2_digest_40 : decode cX2_digest 40 = .ok (.if_icmp .ge 38, 3) := by decide +kernel
theorem dX2_digest_43 : decode cX2_digest 43 = .ok (.aload_n 0, 1) := by decide +kernel
theorem dX2_digest_44 : decode cX2_digest 44 = .ok (.getfield 20, 3) := by decide +kernel
theorem dX2_digest_47 : decode cX2_digest 47 = .ok (.iload_n 3, 1) := by decide +kernel
theorem dX2_digest_48 : decode cX2_digest 48 = .ok (.invokevirtual 172, 3) := by decide +kernel
theorem dX2_digest_51 : decode cX2_digest 51 = .ok (.checkcast 27, 3) := by decide +kernel
theorem dX2_digest_54 : decode cX2_digest 54 = .ok (.astore 4, 2) := by decide +kernel
theorem dX2_digest_56 : decode cX2_digest 56 = .ok (.lload_n 1, 1) := by decide +kernel
theorem dX2_digest_57 : decode cX2_digest 57 = .ok (.aload 4, 2) := by decide +kernel
theorem dX2_digest_59 : decode cX2_digest 59 = .ok (.getfield 72, 3) := by decide +kernel
theorem dX2_digest_62 : decode cX2_digest 62 = .ok (.aload 4, 2) := by decide +kernel
theorem dX2_digest_64 : decode cX2_digest 64 = .ok (.getfield 72, 3) := by decide +kernel
theorem dX2_digest_67 : decode cX2_digest 67 = .ok (.arraylength, 1) := by decide +kernel
theorem dX2_digest_68 : decode cX2_digest 68 = .ok (.invokestatic 181, 3) := by decide +kernel
theorem dX2_digest_71 : decode cX2_digest 71 = .ok (.lstore_n 1, 1) := by decide +kernel
theorem dX2_digest_72 : decode cX2_digest 72 = .ok (.iinc 3 1, 3) := by decide +kernel
theorem dX2_digest_75 : decode cX2_digest 75 = .ok (.goto (-43), 3) := by decide +kernel
theorem dX2_digest_78 : decode cX2_digest 78 = .ok (.lload_n 1, 1) := by decide +kernel
theorem dX2_digest_79 : decode cX2_digest 79 = .ok (.ldc2_w 185, 3) := by decide +kernel
theorem dX2_digest_82 : decode cX2_digest 82 = .ok (.lmul, 1) := by decide +kernel
theorem dX2_digest_83 : decode cX2_digest 83 = .ok (.aload_n 0, 1) := by decide +kernel
theorem dX2_digest_84 : decode cX2_digest 84 = .ok (.getfield 24, 3) := by decide +kernel
theorem dX2_digest_87 : decode cX2_digest 87 = .ok (.invokevirtual 64, 3) := by decide +kernel
theorem dX2_digest_90 : decode cX2_digest 90 = .ok (.i2l, 1) := by decide +kernel
theorem dX2_digest_91 : decode cX2_digest 91 = .ok (.ladd, 1) := by decide +kernel
theorem dX2_digest_92 : decode cX2_digest 92 = .ok (.lstore_n 1, 1) := by decide +kernel
theorem dX2_digest_93 : decode cX2_digest 93 = .ok (.iconst 0, 1) := by decide +kernel
theorem dX2_digest_94 : decode cX2_digest 94 = .ok (.istore_n 3, 1) := by decide +kernel
theorem dX2_digest_95 : decode cX2_digest 95 = .ok (.iload_n 3, 1) := by decide +kernel
theorem dX2_digest_96 : decode cX2_digest 96 = .ok (.aload_n 0, 1) := by decide +kernel
theorem dX2_digest_97 : decode cX2_digest 97 = .ok (.getfield 24, 3) := by decide +kernel
theorem dX2_digest_100 : decode cX2_digest 100 = .ok (.invokevirtual 64, 3) := by decide +kernel
theorem dX2_digest_103 : decode cX2_digest 103 = .ok (.if_icmp .ge 25, 3) := by decide +kernel
theorem dX2_digest_106 : decode cX2_digest 106 = .ok (.lload_n 1, 1) := by decide +kernel
theorem dX2_digest_107 : decode cX2_digest 107 = .ok (.aload_n 0, 1) := by decide +kernel
theorem dX2_digest_108 : decode cX2_digest 108 = .ok (.getfield 24, 3) := by decide +kernel
theorem dX2_digest_111 : decode cX2_digest 111 = .ok (.iload_n 3, 1) := by decide +kernel
theorem dX2_digest_112 : decode cX2_digest 112 = .ok (.invokevirtual 172, 3) := by decide +kernel
theorem dX2_digest_115 : decode cX2_digest 115 = .ok (.checkcast 111, 3) := by decide +kernel
theorem dX2_digest_118 : decode cX2_digest 118 = .ok (.invokestatic 187, 3) := by decide +kernel
theorem dX2_digest_121 : decode cX2_digest 121 = .ok (.lstore_n 1, 1) := by decide +kernel
theorem dX2_digest_122 : decode cX2_digest 122 = .ok (.iinc 3 1, 3) := by decide +kernel
theorem dX2_digest_125 : decode cX2_digest 125 = .ok (.goto (-30), 3) := by decide +kernel
theorem dX2_digest_128 : decode cX2_digest 128 = .ok (.lload_n 1, 1) := by decide +kernel
theorem dX2_digest_129 : decode cX2_digest 129 = .ok (.aload_n 0, 1) := by decide +kernel
theorem dX2_digest_130 : decode cX2_digest 130 = .ok (.getfield 32, 3) := by decide +kernel
theorem dX2_digest_133 : decode cX2_digest 133 = .ok (.getfield 72, 3) := by decide +kernel
theorem dX2_digest_136 : decode cX2_digest 136 = .ok (.aload_n 0, 1) := by decide +kernel
theorem dX2_digest_137 : decode cX2_digest 137 = .ok (.getfield 32, 3) := by decide +kernel
theorem dX2_digest_140 : decode cX2_digest 140 = .ok (.getfield 72, 3) := by decide +kernel
theorem dX2_digest_143 : decode cX2_digest 143 = .ok (.arraylength, 1) := by decide +kernel
theorem dX2_digest_144 : decode cX2_digest 144 = .ok (.invokestatic 181, 3) := by decide +kernel
theorem dX2_digest_147 : decode cX2_digest 147 = .ok (.lstore_n 1, 1) := by decide +kernel
theorem dX2_digest_148 : decode cX2_digest 148 = .ok (.lload_n 1, 1) := by decide +kernel
theorem dX2_digest_149 : decode cX2_digest 149 = .ok (.ldc2_w 185, 3) := by decide +kernel
theorem dX2_digest_152 : decode cX2_digest 152 = .ok (.lmul, 1) := by decide +kernel
theorem dX2_digest_153 : decode cX2_digest 153 = .ok (.aload_n 0, 1) := by decide +kernel
theorem dX2_digest_154 : decode cX2_digest 154 = .ok (.getfield 36, 3) := by decide +kernel
theorem dX2_digest_157 : decode cX2_digest 157 = .ok (.invokevirtual 64, 3) := by decide +kernel
theorem dX2_digest_160 : decode cX2_digest 160 = .ok (.i2l, 1) := by decide +kernel
theorem dX2_digest_161 : decode cX2_digest 161 = .ok (.ladd, 1) := by decide +kernel
theorem dX2_digest_162 : decode cX2_digest 162 = .ok (.lreturn, 1) := by decide +kernel
set_option maxRecDepth 20000 in
theorem ggX2_rowOf_Jx4a65c_size_8abf5 : GoodIn wsX2_rowOf wsJx4a65c_size_8abf5 := goodIn_r _ [9, 10, 36, 37, 38] (by decide +kernel) (by decide +kernel)
set_option maxRecDepth 20000 in
theorem gX2_rowOf_Jx4a65c_size_8abf5 : GoodIn wsX2_rowOf (wsV RX2 64 RJx4a65c yJx4a65c_size_8abf5 wsJx4a65c_size_8abf5) := goodIn_app (goodIn_of _ (by decide +kernel)) ggX2_rowOf_Jx4a65c_size_8abf5
set_option maxRecDepth 20000 in
theorem ggX2_rowOf_Jx4a65c_get_915e3 : GoodIn wsX2_rowOf wsJx4a65c_get_915e3 := goodIn_r _ [14, 10, 15, 16, 17, 18, 19, 20, 21, 22, 23, 24, 25, 8, 26, 27, 36, 37, 38] (by decide +kernel) (by decide +kernel)
set_option maxRecDepth 20000 in
theorem gX2_rowOf_Jx4a65c_get_915e3 : GoodIn wsX2_rowOf (wsV RX2 172 RJx4a65c yJx4a65c_get_915e3 wsJx4a65c_get_915e3) := goodIn_app (goodIn_of _ (by decide +kernel)) ggX2_rowOf_Jx4a65c_get_915e3
theorem dX2_rowOf_0 : decode cX2_rowOf 0 = .ok (.iload_n 1, 1) := by decide +kernel
theorem dX2_rowOf_1 : decode cX2_rowOf 1 = .ok (.ifCond .lt 14, 3) := by decide +kernel
theorem dX2_rowOf_4 : decode cX2_rowOf 4 = .ok (.iload_n 1, 1) := by decide +kernel
theorem dX2_rowOf_5 : decode cX2_rowOf 5 = .ok (.aload_n 0, 1) := by decide +kernel
theorem dX2_rowOf_6 : decode cX2_rowOf 6 = .ok (.getfield 20, 3) := by decide +kernel
theorem dX2_rowOf_9 : decode cX2_rowOf 9 = .ok (.invokevirtual 64, 3) := by decide +kernel
theorem dX2_rowOf_12 : decode cX2_rowOf 12 = .ok (.if_icmp .lt 13, 3) := by decide +kernel
theorem dX2_rowOf_15 : decode cX2_rowOf 15 = .ok (.new 75, 3) := by decide +kernel
theorem dX2_rowOf_18 : decode cX2_rowOf 18 = .ok (.dup, 1) := by decide +kernel
theorem dX2_rowOf_19 : decode cX2_rowOf 19 = .ok (.ldc 191, 2) := by decide +kernel
theorem dX2_rowOf_21 : decode cX2_rowOf 21 = .ok (.invokespecial 79, 3) := by decide +kernel
theorem dX2_rowOf_24 : decode cX2_rowOf 24 = .ok (.athrow, 1) := by decide +kernel
theorem dX2_rowOf_25 : decode cX2_rowOf 25 = .ok (.aload_n 0, 1) := by decide +kernel
theorem dX2_rowOf_26 : decode cX2_rowOf 26 = .ok (.getfield 20, 3) := by decide +kernel
theorem dX2_rowOf_29 : decode cX2_rowOf 29 = .ok (.iload_n 1, 1) := by decide +kernel
theorem dX2_rowOf_30 : decode cX2_rowOf 30 = .ok (.invokevirtual 172, 3) := by decide +kernel
theorem dX2_rowOf_33 : decode cX2_rowOf 33 = .ok (.checkcast 27, 3) := by decide +kernel
theorem dX2_rowOf_36 : decode cX2_rowOf 36 = .ok (.areturn, 1) := by decide +kernel
set_option maxRecDepth 20000 in
theorem ggX2_patchOf_Jx4a65c_size_8abf5 : GoodIn wsX2_patchOf wsJx4a65c_size_8abf5 := goodIn_r _ [9, 10, 36, 37, 38] (by decide +kernel) (by decide +kernel)
set_option maxRecDepth 20000 in
theorem gX2_patchOf_Jx4a65c_size_8abf5 : GoodIn wsX2_patchOf (wsV RX2 64 RJx4a65c yJx4a65c_size_8abf5 wsJx4a65c_size_8abf5) := goodIn_app (goodIn_of _ (by decide +kernel)) ggX2_patchOf_Jx4a65c_size_8abf5
set_option maxRecDepth 20000 in
theorem ggX2_patchOf_Jx4a65c_get_915e3 : GoodIn wsX2_patchOf wsJx4a65c_get_915e3 := goodIn_r _ [14, 10, 15, 16, 17, 18, 19, 20, 21, 22, 23, 24, 25, 8, 26, 27, 36, 37, 38] (by decide +kernel) (by decide +kernel)
set_option maxRecDepth 20000 in
theorem gX2_patchOf_Jx4a65c_get_915e3 : GoodIn wsX2_patchOf (wsV RX2 172 RJx4a65c yJx4a65c_get_915e3 wsJx4a65c_get_915e3) := goodIn_app (goodIn_of _ (by decide +kernel)) ggX2_patchOf_Jx4a65c_get_915e3
theorem dX2_patchOf_0 : decode cX2_patchOf 0 = .ok (.iload_n 1, 1) := by decide +kernel
theorem dX2_patchOf_1 : decode cX2_patchOf 1 = .ok (.ifCond .lt 14, 3) := by decide +kernel
theorem dX2_patchOf_4 : decode cX2_patchOf 4 = .ok (.iload_n 1, 1) := by decide +kernel
theorem dX2_patchOf_5 : decode cX2_patchOf 5 = .ok (.aload_n 0, 1) := by decide +kernel
theorem dX2_patchOf_6 : decode cX2_patchOf 6 = .ok (.getfield 24, 3) := by decide +kernel
theorem dX2_patchOf_9 : decode cX2_patchOf 9 = .ok (.invokevirtual 64, 3) := by decide +kernel
theorem dX2_patchOf_12 : decode cX2_patchOf 12 = .ok (.if_icmp .lt 13, 3) := by decide +kernel
theorem dX2_patchOf_15 : decode cX2_patchOf 15 = .ok (.new 75, 3) := by decide +kernel
theorem dX2_patchOf_18 : decode cX2_patchOf 18 = .ok (.dup, 1) := by decide +kernel
theorem dX2_patchOf_19 : decode cX2_patchOf 19 = .ok (.ldc 193, 2) := by decide +kernel
theorem dX2_patchOf_21 : decode cX2_patchOf 21 = .ok (.invokespecial 79, 3) := by decide +kernel
theorem dX2_patchOf_24 : decode cX2_patchOf 24 = .ok (.athrow, 1) := by decide +kernel
theorem dX2_patchOf_25 : decode cX2_patchOf 25 = .ok (.aload_n 0, 1) := by decide +kernel
theorem dX2_patchOf_26 : decode cX2_patchOf 26 = .ok (.getfield 24, 3) := by decide +kernel
theorem dX2_patchOf_29 : decode cX2_patchOf 29 = .ok (.iload_n 1, 1) := by decide +kernel
theorem dX2_patchOf_30 : decode cX2_patchOf 30 = .ok (.invokevirtual 172, 3) := by decide +kernel
theorem dX2_patchOf_33 : decode cX2_patchOf 33 = .ok (.checkcast 111, 3) := by decide +kernel
theorem dX2_patchOf_36 : decode cX2_patchOf 36 = .ok (.areturn, 1) := by decide +kernel
theorem dX2_checkSize_0 : decode cX2_checkSize 0 = .ok (.iload_n 0, 1) := by decide +kernel
theorem dX2_checkSize_1 : decode cX2_checkSize 1 = .ok (.iconst 2, 1) := by decide +kernel
theorem dX2_checkSize_2 : decode cX2_checkSize 2 = .ok (.if_icmp .lt 9, 3) := by decide +kernel
theorem dX2_checkSize_5 : decode cX2_checkSize 5 = .ok (.iload_n 0, 1) := by decide +kernel
theorem dX2_checkSize_6 : decode cX2_checkSize 6 = .ok (.bipush 32, 2) := by decide +kernel
theorem dX2_checkSize_8 : decode cX2_checkSize 8 = .ok (.if_icmp .le 13, 3) := by decide +kernel
theorem dX2_checkSize_11 : decode cX2_checkSize 11 = .ok (.new 45, 3) := by decide +kernel
theorem dX2_checkSize_14 : decode cX2_checkSize 14 = .ok (.dup, 1) := by decide +kernel
theorem dX2_checkSize_15 : decode cX2_checkSize 15 = .ok (.ldc 195, 2) := by decide +kernel
theorem dX2_checkSize_17 : decode cX2_checkSize 17 = .ok (.invokespecial 49, 3) := by decide +kernel
theorem dX2_checkSize_20 : decode cX2_checkSize 20 = .ok (.athrow, 1) := by decide +kernel
theorem dX2_checkSize_21 : decode cX2_checkSize 21 = .ok (.return_, 1) := by decide +kernel
set_option maxRecDepth 20000 in
theorem ggX2_checkRoomForVersion_Jx4a65c_size_8abf5 : GoodIn wsX2_checkRoomForVersion wsJx4a65c_size_8abf5 := goodIn_r _ [8, 9, 18, 19, 20] (by decide +kernel) (by decide +kernel)
set_option maxRecDepth 20000 in
theorem gX2_checkRoomForVersion_Jx4a65c_size_8abf5 : GoodIn wsX2_checkRoomForVersion (wsV RX2 64 RJx4a65c yJx4a65c_size_8abf5 wsJx4a65c_size_8abf5) := goodIn_app (goodIn_of _ (by decide +kernel)) ggX2_checkRoomForVersion_Jx4a65c_size_8abf5
theorem dX2_checkRoomForVersion_0 : decode cX2_checkRoomForVersion 0 = .ok (.aload_n 0, 1) := by decide +kernel
theorem dX2_checkRoomForVersion_1 : decode cX2_checkRoomForVersion 1 = .ok (.getfield 20, 3) := by decide +kernel
theorem dX2_checkRoomForVersion_4 : decode cX2_checkRoomForVersion 4 = .ok (.invokevirtual 64, 3) := by decide +kernel
theorem dX2_checkRoomForVersion_7 : decode cX2_checkRoomForVersion 7 = .ok (.bipush 12, 2) := by decide +kernel
theorem dX2_checkRoomForVersion_9 : decode cX2_checkRoomForVersion 9 = .ok (.if_icmp .lt 13, 3) := by decide +kernel
theorem dX2_checkRoomForVersion_12 : decode cX2_checkRoomForVersion 12 = .ok (.new 52, 3) := by decide +kernel
theorem dX2_checkRoomForVersion_15 : decode cX2_checkRoomForVersion 15 = .ok (.dup, 1) := by decide +kernel
theorem dX2_checkRoomForVersion_16 : decode cX2_checkRoomForVersion 16 = .ok (.ldc 197, 2) := by decide +kernel
theorem dX2_checkRoomForVersion_18 : decode cX2_checkRoomForVersion 18 = .ok (.invokespecial 56, 3) := by decide +kernel
theorem dX2_checkRoomForVersion_21 : decode cX2_checkRoomForVersion 21 = .ok (.athrow, 1) := by decide +kernel
theorem dX2_checkRoomForVersion_22 : decode cX2_checkRoomForVersion 22 = .ok (.return_, 1) := by decide +kernel
set_option maxRecDepth 20000 in
theorem ggX2_checkRoomForPatch_Jx4a65c_size_8abf5 : GoodIn wsX2_checkRoomForPatch wsJx4a65c_size_8abf5 := goodIn_r _ [8, 9, 18, 19, 20] (by decide +kernel) (by decide +kernel)
set_option maxRecDepth 20000 in
theorem gX2_checkRoomForPatch_Jx4a65c_size_8abf5 : GoodIn wsX2_checkRoomForPatch (wsV RX2 64 RJx4a65c yJx4a65c_size_8abf5 wsJx4a65c_size_8abf5) := goodIn_app (goodIn_of _ (by decide +kernel)) ggX2_checkRoomForPatch_Jx4a65c_size_8abf5
theorem dX2_checkRoomForPatch_0 : decode cX2_checkRoomForPatch 0 = .ok (.aload_n 0, 1) := by decide +kernel
theorem dX2_checkRoomForPatch_1 : decode cX2_checkRoomForPatch 1 = .ok (.getfield 24, 3) := by decide +kernel
theorem dX2_checkRoomForPatch_4 : decode cX2_checkRoomForPatch 4 = .ok (.invokevirtual 64, 3) := by decide +kernel
theorem dX2_checkRoomForPatch_7 : decode cX2_checkRoomForPatch 7 = .ok (.bipush 12, 2) := by decide +kernel
theorem dX2_checkRoomForPatch_9 : decode cX2_checkRoomForPatch 9 = .ok (.if_icmp .lt 13, 3) := by decide +kernel
theorem dX2_checkRoomForPatch_12 : decode cX2_checkRoomForPatch 12 = .ok (.new 52, 3) := by decide +kernel
theorem dX2_checkRoomForPatch_15 : decode cX2_checkRoomForPatch 15 = .ok (.dup, 1) := by decide +kernel
theorem dX2_checkRoomForPatch_16 : decode cX2_checkRoomForPatch 16 = .ok (.ldc 199, 2) := by decide +kernel
theorem dX2_checkRoomForPatch_18 : decode cX2_checkRoomForPatch 18 = .ok (.invokespecial 56, 3) := by decide +kernel
theorem dX2_checkRoomForPatch_21 : decode cX2_checkRoomForPatch 21 = .ok (.athrow, 1) := by decide +kernel
theorem dX2_checkRoomForPatch_22 : decode cX2_checkRoomForPatch 22 = .ok (.return_, 1) := by decide +kernel
set_option maxRecDepth 20000 in
theorem ggX2_firstLike_X2_rowOf : GoodIn wsX2_firstLike wsX2_rowOf := goodIn_ca (goodIn_r _ [5, 6, 7, 8, 9, 10, 11, 12, 13, 14, 15, 16, 17, 18, 19, 20, 21, 22, 23, 24, 25, 26, 27, 28, 29, 30, 31, 32, 43, 44, 45, 46, 47, 48, 49, 50, 51, 52, 53] (by decide +kernel) (by decide +kernel)) (goodIn_sub (fun _ h => List.mem_cons_of_mem _ (List.mem_append_right _ h)) (by decide +kernel))
set_option maxRecDepth 20000 in
theorem gX2_firstLike_X2_rowOf : GoodIn wsX2_firstLike (wsV RX2 68 RX2 yX2_rowOf wsX2_rowOf) := goodIn_app (goodIn_of _ (by decide +kernel)) ggX2_firstLike_X2_rowOf
set_option maxRecDepth 20000 in
theorem ggX2_firstLike_X1_hasBytesOf : GoodIn wsX2_firstLike wsX1_hasBytesOf := goodIn_r _ [37, 38, 39, 40, 41, 36, 42, 54] (by decide +kernel) (by decide +kernel)
set_option maxRecDepth 20000 in
theorem gX2_firstLike_X1_hasBytesOf : GoodIn wsX2_firstLike (wsV RX2 80 RX1 yX1_hasBytesOf wsX1_hasBytesOf) := goodIn_app (goodIn_of _ (by decide +kernel)) ggX2_firstLike_X1_hasBytesOf
theorem dX2_firstLike_0 : decode cX2_firstLike 0 = .ok (.aload_n 0, 1) := by decide +kernel
theorem dX2_firstLike_1 : decode cX2_firstLike 1 = .ok (.iload_n 1, 1) := by decide +kernel
theorem dX2_firstLike_2 : decode cX2_firstLike 2 = .ok (.invokevirtual 68, 3) := by decide +kernel
theorem dX2_firstLike_5 : decode cX2_firstLike 5 = .ok (.astore_n 2, 1) := by decide +kernel
theorem dX2_firstLike_6 : decode cX2_firstLike 6 = .ok (.iconst 0, 1) := by decide +kernel
theorem dX2_firstLike_7 : decode cX2_firstLike 7 = .ok (.istore_n 3, 1) := by decide +kernel
theorem dX2_firstLike_8 : decode cX2_firstLike 8 = .ok (.iload_n 3, 1) := by decide +kernel
theorem dX2_firstLike_9 : decode cX2_firstLike 9 = .ok (.iload_n 1, 1) := by decide +kernel
theorem dX2_firstLike_10 : decode cX2_firstLike 10 = .ok (.if_icmp .ge 23, 3) := by decide +kernel
theorem dX2_firstLike_13 : decode cX2_firstLike 13 = .ok (.aload_n 0, 1) := by decide +kernel
theorem dX2_firstLike_14 : decode cX2_firstLike 14 = .ok (.iload_n 3, 1) := by decide +kernel
theorem dX2_firstLike_15 : decode cX2_firstLike 15 = .ok (.invokevirtual 68, 3) := by decide +kernel
theorem dX2_firstLike_18 : decode cX2_firstLike 18 = .ok (.aload_n 2, 1) := by decide +kernel
theorem dX2_firstLike_19 : decode cX2_firstLike 19 = .ok (.invokevirtual 80, 3) := by decide +kernel
theorem dX2_firstLike_22 : decode cX2_firstLike 22 = .ok (.ifCond .eq 5, 3) := by decide +kernel
theorem dX2_firstLike_25 : decode cX2_firstLike 25 = .ok (.iload_n 3, 1) := by decide +kernel
theorem dX2_firstLike_26 : decode cX2_firstLike 26 = .ok (.ireturn, 1) := by decide +kernel
theorem dX2_firstLike_27 : decode cX2_firstLike 27 = .ok (.iinc 3 1, 3) := by decide +kernel
theorem dX2_firstLike_30 : decode cX2_firstLike 30 = .ok (.goto (-22), 3) := by decide +kernel
theorem dX2_firstLike_33 : decode cX2_firstLike 33 = .ok (.iload_n 1, 1) := by decide +kernel
theorem dX2_firstLike_34 : decode cX2_firstLike 34 = .ok (.ireturn, 1) := by decide +kernel
set_option maxRecDepth 20000 in
theorem ggX2_firstBlock_X1_hasStretch : GoodIn wsX2_firstBlock wsX1_hasStretch := goodIn_r _ [6, 7, 8] (by decide +kernel) (by decide +kernel)
set_option maxRecDepth 20000 in
theorem gX2_firstBlock_X1_hasStretch : GoodIn wsX2_firstBlock (wsV RX2 96 RX1 yX1_hasStretch wsX1_hasStretch) := goodIn_app (goodIn_of _ (by decide +kernel)) ggX2_firstBlock_X1_hasStretch
theorem dX2_firstBlock_0 : decode cX2_firstBlock 0 = .ok (.aload_n 0, 1) := by decide +kernel
theorem dX2_firstBlock_1 : decode cX2_firstBlock 1 = .ok (.getfield 72, 3) := by decide +kernel
theorem dX2_firstBlock_4 : decode cX2_firstBlock 4 = .ok (.arraylength, 1) := by decide +kernel
theorem dX2_firstBlock_5 : decode cX2_firstBlock 5 = .ok (.iload_n 3, 1) := by decide +kernel
theorem dX2_firstBlock_6 : decode cX2_firstBlock 6 = .ok (.idiv, 1) := by decide +kernel
theorem dX2_firstBlock_7 : decode cX2_firstBlock 7 = .ok (.istore 4, 2) := by decide +kernel
theorem dX2_firstBlock_9 : decode cX2_firstBlock 9 = .ok (.iconst 0, 1) := by decide +kernel
theorem dX2_firstBlock_10 : decode cX2_firstBlock 10 = .ok (.istore 5, 2) := by decide +kernel
theorem dX2_firstBlock_12 : decode cX2_firstBlock 12 = .ok (.iload 5, 2) := by decide +kernel
theorem dX2_firstBlock_14 : decode cX2_firstBlock 14 = .ok (.iload 4, 2) := by decide +kernel
theorem dX2_firstBlock_16 : decode cX2_firstBlock 16 = .ok (.if_icmp .ge 26, 3) := by decide +kernel
theorem dX2_firstBlock_19 : decode cX2_firstBlock 19 = .ok (.aload_n 0, 1) := by decide +kernel
theorem dX2_firstBlock_20 : decode cX2_firstBlock 20 = .ok (.iload 5, 2) := by decide +kernel
theorem dX2_firstBlock_22 : decode cX2_firstBlock 22 = .ok (.iload_n 3, 1) := by decide +kernel
theorem dX2_firstBlock_23 : decode cX2_firstBlock 23 = .ok (.imul, 1) := by decide +kernel
theorem dX2_firstBlock_24 : decode cX2_firstBlock 24 = .ok (.aload_n 1, 1) := by decide +kernel
theorem dX2_firstBlock_25 : decode cX2_firstBlock 25 = .ok (.iload_n 2, 1) := by decide +kernel
theorem dX2_firstBlock_26 : decode cX2_firstBlock 26 = .ok (.iload_n 3, 1) := by decide +kernel
theorem dX2_firstBlock_27 : decode cX2_firstBlock 27 = .ok (.invokevirtual 96, 3) := by decide +kernel
theorem dX2_firstBlock_30 : decode cX2_firstBlock 30 = .ok (.ifCond .eq 6, 3) := by decide +kernel
theorem dX2_firstBlock_33 : decode cX2_firstBlock 33 = .ok (.iload 5, 2) := by decide +kernel
theorem dX2_firstBlock_35 : decode cX2_firstBlock 35 = .ok (.ireturn, 1) := by decide +kernel
theorem dX2_firstBlock_36 : decode cX2_firstBlock 36 = .ok (.iinc 5 1, 3) := by decide +kernel
theorem dX2_firstBlock_39 : decode cX2_firstBlock 39 = .ok (.goto (-27), 3) := by decide +kernel
theorem dX2_firstBlock_42 : decode cX2_firstBlock 42 = .ok (.iconst (-1), 1) := by decide +kernel
theorem dX2_firstBlock_43 : decode cX2_firstBlock 43 = .ok (.ireturn, 1) := by decide +kernel
set_option maxRecDepth 20000 in
theorem ggX2_blockToCopy_X1_hasStretch : GoodIn wsX2_blockToCopy wsX1_hasStretch := goodIn_r _ [6, 7, 12] (by decide +kernel) (by decide +kernel)
set_option maxRecDepth 20000 in
theorem gX2_blockToCopy_X1_hasStretch : GoodIn wsX2_blockToCopy (wsV RX2 96 RX1 yX1_hasStretch wsX1_hasStretch) := goodIn_app (goodIn_of _ (by decide +kernel)) ggX2_blockToCopy_X1_hasStretch
set_option maxRecDepth 20000 in
theorem ggX2_blockToCopy_X2_firstBlock : GoodIn wsX2_blockToCopy wsX2_firstBlock := goodIn_r _ [11, 1, 2, 3, 4, 5, 6, 7, 12] (by decide +kernel) (by decide +kernel)
set_option maxRecDepth 20000 in
theorem gX2_blockToCopy_X2_firstBlock : GoodIn wsX2_blockToCopy (va_wsS RX2 100 yX2_firstBlock wsX2_firstBlock) := goodIn_app (goodIn_of _ (by decide +kernel)) ggX2_blockToCopy_X2_firstBlock
theorem dX2_blockToCopy_0 : decode cX2_blockToCopy 0 = .ok (.iload_n 2, 1) := by decide +kernel
theorem dX2_blockToCopy_1 : decode cX2_blockToCopy 1 = .ok (.aload_n 1, 1) := by decide +kernel
theorem dX2_blockToCopy_2 : decode cX2_blockToCopy 2 = .ok (.getfield 72, 3) := by decide +kernel
theorem dX2_blockToCopy_5 : decode cX2_blockToCopy 5 = .ok (.arraylength, 1) := by decide +kernel
theorem dX2_blockToCopy_6 : decode cX2_blockToCopy 6 = .ok (.iload_n 3, 1) := by decide +kernel
theorem dX2_blockToCopy_7 : decode cX2_blockToCopy 7 = .ok (.isub, 1) := by decide +kernel
theorem dX2_blockToCopy_8 : decode cX2_blockToCopy 8 = .ok (.if_icmp .le 5, 3) := by decide +kernel
theorem dX2_blockToCopy_11 : decode cX2_blockToCopy 11 = .ok (.iconst (-1), 1) := by decide +kernel
theorem dX2_blockToCopy_12 : decode cX2_blockToCopy 12 = .ok (.ireturn, 1) := by decide +kernel
theorem dX2_blockToCopy_13 : decode cX2_blockToCopy 13 = .ok (.iload 4, 2) := by decide +kernel
theorem dX2_blockToCopy_15 : decode cX2_blockToCopy 15 = .ok (.iconst 1, 1) := by decide +kernel
theorem dX2_blockToCopy_16 : decode cX2_blockToCopy 16 = .ok (.iadd, 1) := by decide +kernel
theorem dX2_blockToCopy_17 : decode cX2_blockToCopy 17 = .ok (.istore 5, 2) := by decide +kernel
theorem dX2_blockToCopy_19 : decode cX2_blockToCopy 19 = .ok (.iload 4, 2) := by decide +kernel
theorem dX2_blockToCopy_21 : decode cX2_blockToCopy 21 = .ok (.iconst (-1), 1) := by decide +kernel
theorem dX2_blockToCopy_22 : decode cX2_blockToCopy 22 = .ok (.if_icmp .eq 32, 3) := by decide +kernel
theorem dX2_blockToCopy_25 : decode cX2_blockToCopy 25 = .ok (.iload 5, 2) := by decide +kernel
theorem dX2_blockToCopy_27 : decode cX2_blockToCopy 27 = .ok (.aload_n 0, 1) := by decide +kernel
theorem dX2_blockToCopy_28 : decode cX2_blockToCopy 28 = .ok (.getfield 72, 3) := by decide +kernel
theorem dX2_blockToCopy_31 : decode cX2_blockToCopy 31 = .ok (.arraylength, 1) := by decide +kernel
theorem dX2_blockToCopy_32 : decode cX2_blockToCopy 32 = .ok (.iload_n 3, 1) := by decide +kernel
theorem dX2_blockToCopy_33 : decode cX2_blockToCopy 33 = .ok (.idiv, 1) := by decide +kernel
theorem dX2_blockToCopy_34 : decode cX2_blockToCopy 34 = .ok (.if_icmp .ge 20, 3) := by decide +kernel
theorem dX2_blockToCopy_37 : decode cX2_blockToCopy 37 = .ok (.aload_n 0, 1) := by decide +kernel
theorem dX2_blockToCopy_38 : decode cX2_blockToCopy 38 = .ok (.iload 5, 2) := by decide +kernel
theorem dX2_blockToCopy_40 : decode cX2_blockToCopy 40 = .ok (.iload_n 3, 1) := by decide +kernel
theorem dX2_blockToCopy_41 : decode cX2_blockToCopy 41 = .ok (.imul, 1) := by decide +kernel
theorem dX2_blockToCopy_42 : decode cX2_blockToCopy 42 = .ok (.aload_n 1, 1) := by decide +kernel
theorem dX2_blockToCopy_43 : decode cX2_blockToCopy 43 = .ok (.iload_n 2, 1) := by decide +kernel
theorem dX2_blockToCopy_44 : decode cX2_blockToCopy 44 = .ok (.iload_n 3, 1) := by decide +kernel
theorem dX2_blockToCopy_45 : decode cX2_blockToCopy 45 = .ok (.invokevirtual 96, 3) := by decide +kernel
theorem dX2_blockToCopy_48 : decode cX2_blockToCopy 48 = .ok (.ifCond .eq 6, 3) := by decide +kernel
theorem dX2_blockToCopy_51 : decode cX2_blockToCopy 51 = .ok (.iload 5, 2) := by decide +kernel
theorem dX2_blockToCopy_53 : decode cX2_blockToCopy 53 = .ok (.ireturn, 1) := by decide +kernel
theorem dX2_blockToCopy_54 : decode cX2_blockToCopy 54 = .ok (.aload_n 0, 1) := by decide +kernel
theorem dX2_blockToCopy_55 : decode cX2_blockToCopy 55 = .ok (.aload_n 1, 1) := by decide +kernel
theorem dX2_blockToCopy_56 : decode cX2_blockToCopy 56 = .ok (.iload_n 2, 1) := by decide +kernel
theorem dX2_blockToCopy_57 : decode cX2_blockToCopy 57 = .ok (.iload_n 3, 1) := by decide +kernel
theorem dX2_blockToCopy_58 : decode cX2_blockToCopy 58 = .ok (.invokestatic 100, 3) := by decide +kernel
theorem dX2_blockToCopy_61 : decode cX2_blockToCopy 61 = .ok (.ireturn, 1) := by decide +kernel
set_option maxRecDepth 20000 in
theorem ggX2_originsByBlocks_X2_blockToCopy : GoodIn wsX2_originsByBlocks wsX2_blockToCopy := goodIn_r _ [6, 1, 7, 8, 9, 10, 11, 12, 13, 14, 5, 15, 16] (by decide +kernel) (by decide +kernel)
set_option maxRecDepth 20000 in
theorem gX2_originsByBlocks_X2_blockToCopy : GoodIn wsX2_originsByBlocks (va_wsS RX2 201 yX2_blockToCopy wsX2_blockToCopy) := goodIn_app (goodIn_of _ (by decide +kernel)) ggX2_originsByBlocks_X2_blockToCopy
theorem dX2_originsByBlocks_0 : decode cX2_originsByBlocks 0 = .ok (.aload_n 1, 1) := by decide +kernel
theorem dX2_originsByBlocks_1 : decode cX2_originsByBlocks 1 = .ok (.getfield 72, 3) := by decide +kernel
theorem dX2_originsByBlocks_4 : decode cX2_originsByBlocks 4 = .ok (.arraylength, 1) := by decide +kernel
theorem dX2_originsByBlocks_5 : decode cX2_originsByBlocks 5 = .ok (.newarray .int, 2) := by decide +kernel
theorem dX2_originsByBlocks_7 : decode cX2_originsByBlocks 7 = .ok (.astore_n 3, 1) := by decide +kernel
theorem dX2_originsByBlocks_8 : decode cX2_originsByBlocks 8 = .ok (.iconst (-1), 1) := by decide +kernel
theorem dX2_originsByBlocks_9 : decode cX2_originsByBlocks 9 = .ok (.istore 4, 2) := by decide +kernel
theorem dX2_originsByBlocks_11 : decode cX2_originsByBlocks 11 = .ok (.iconst 0, 1) := by decide +kernel
theorem dX2_originsByBlocks_12 : decode cX2_originsByBlocks 12 = .ok (.istore 5, 2) := by decide +kernel
theorem dX2_originsByBlocks_14 : decode cX2_originsByBlocks 14 = .ok (.iconst 0, 1) := by decide +kernel
theorem dX2_originsByBlocks_15 : decode cX2_originsByBlocks 15 = .ok (.istore 6, 2) := by decide +kernel
theorem dX2_originsByBlocks_17 : decode cX2_originsByBlocks 17 = .ok (.iload 6, 2) := by decide +kernel
theorem dX2_originsByBlocks_19 : decode cX2_originsByBlocks 19 = .ok (.aload_n 3, 1) := by decide +kernel
theorem dX2_originsByBlocks_20 : decode cX2_originsByBlocks 20 = .ok (.arraylength, 1) := by decide +kernel
theorem dX2_originsByBlocks_21 : decode cX2_originsByBlocks 21 = .ok (.if_icmp .ge 68, 3) := by decide +kernel
theorem dX2_originsByBlocks_24 : decode cX2_originsByBlocks 24 = .ok (.iload 5, 2) := by decide +kernel
theorem dX2_originsByBlocks_26 : decode cX2_originsByBlocks 26 = .ok (.ifCond .ne 28, 3) := by decide +kernel
theorem dX2_originsByBlocks_29 : decode cX2_originsByBlocks 29 = .ok (.aload_n 0, 1) := by decide +kernel
theorem dX2_originsByBlocks_30 : decode cX2_originsByBlocks 30 = .ok (.aload_n 1, 1) := by decide +kernel
theorem dX2_originsByBlocks_31 : decode cX2_originsByBlocks 31 = .ok (.iload 6, 2) := by decide +kernel
theorem dX2_originsByBlocks_33 : decode cX2_originsByBlocks 33 = .ok (.iload_n 2, 1) := by decide +kernel
theorem dX2_originsByBlocks_34 : decode cX2_originsByBlocks 34 = .ok (.iload 4, 2) := by decide +kernel
theorem dX2_originsByBlocks_36 : decode cX2_originsByBlocks 36 = .ok (.invokestatic 201, 3) := by decide +kernel
theorem dX2_originsByBlocks_39 : decode cX2_originsByBlocks 39 = .ok (.istore 7, 2) := by decide +kernel
theorem dX2_originsByBlocks_41 : decode cX2_originsByBlocks 41 = .ok (.iload 7, 2) := by decide +kernel
theorem dX2_originsByBlocks_43 : decode cX2_originsByBlocks 43 = .ok (.iconst (-1), 1) := by decide +kernel
theorem dX2_originsByBlocks_44 : decode cX2_originsByBlocks 44 = .ok (.if_icmp .eq 10, 3) := by decide +kernel
theorem dX2_originsByBlocks_47 : decode cX2_originsByBlocks 47 = .ok (.iload 7, 2) := by decide +kernel
theorem dX2_originsByBlocks_49 : decode cX2_originsByBlocks 49 = .ok (.istore 4, 2) := by decide +kernel
theorem dX2_originsByBlocks_51 : decode cX2_originsByBlocks 51 = .ok (.iload_n 2, 1) := by decide +kernel
theorem dX2_originsByBlocks_52 : decode cX2_originsByBlocks 52 = .ok (.istore 5, 2) := by decide +kernel
theorem dX2_originsByBlocks_54 : decode cX2_originsByBlocks 54 = .ok (.iload 5, 2) := by decide +kernel
theorem dX2_originsByBlocks_56 : decode cX2_originsByBlocks 56 = .ok (.ifCond .ne 11, 3) := by decide +kernel
theorem dX2_originsByBlocks_59 : decode cX2_originsByBlocks 59 = .ok (.aload_n 3, 1) := by decide +kernel
theorem dX2_originsByBlocks_60 : decode cX2_originsByBlocks 60 = .ok (.iload 6, 2) := by decide +kernel
theorem dX2_originsByBlocks_62 : decode cX2_originsByBlocks 62 = .ok (.iconst (-1), 1) := by decide +kernel
theorem dX2_originsByBlocks_63 : decode cX2_originsByBlocks 63 = .ok (.iastore, 1) := by decide +kernel
theorem dX2_originsByBlocks_64 : decode cX2_originsByBlocks 64 = .ok (.goto 19, 3) := by decide +kernel
theorem dX2_originsByBlocks_67 : decode cX2_originsByBlocks 67 = .ok (.aload_n 3, 1) := by decide +kernel
theorem dX2_originsByBlocks_68 : decode cX2_originsByBlocks 68 = .ok (.iload 6, 2) := by decide +kernel
theorem dX2_originsByBlocks_70 : decode cX2_originsByBlocks 70 = .ok (.iload 4, 2) := by decide +kernel
theorem dX2_originsByBlocks_72 : decode cX2_originsByBlocks 72 = .ok (.iconst 1, 1) := by decide +kernel
theorem dX2_originsByBlocks_73 : decode cX2_originsByBlocks 73 = .ok (.iadd, 1) := by decide +kernel
theorem dX2_originsByBlocks_74 : decode cX2_originsByBlocks 74 = .ok (.iload_n 2, 1) := by decide +kernel
theorem dX2_originsByBlocks_75 : decode cX2_originsByBlocks 75 = .ok (.imul, 1) := by decide +kernel
theorem dX2_originsByBlocks_76 : decode cX2_originsByBlocks 76 = .ok (.iload 5, 2) := by decide +kernel
theorem dX2_originsByBlocks_78 : decode cX2_originsByBlocks 78 = .ok (.isub, 1) := by decide +kernel
theorem dX2_originsByBlocks_79 : decode cX2_originsByBlocks 79 = .ok (.iastore, 1) := by decide +kernel
theorem dX2_originsByBlocks_80 : decode cX2_originsByBlocks 80 = .ok (.iinc 5 (-1), 3) := by decide +kernel
theorem dX2_originsByBlocks_83 : decode cX2_originsByBlocks 83 = .ok (.iinc 6 1, 3) := by decide +kernel
theorem dX2_originsByBlocks_86 : decode cX2_originsByBlocks 86 = .ok (.goto (-69), 3) := by decide +kernel
theorem dX2_originsByBlocks_89 : decode cX2_originsByBlocks 89 = .ok (.aload_n 3, 1) := by decide +kernel
theorem dX2_originsByBlocks_90 : decode cX2_originsByBlocks 90 = .ok (.areturn, 1) := by decide +kernel
theorem dX2_originsThrough_0 : decode cX2_originsThrough 0 = .ok (.aload_n 1, 1) := by decide +kernel
theorem dX2_originsThrough_1 : decode cX2_originsThrough 1 = .ok (.arraylength, 1) := by decide +kernel
theorem dX2_originsThrough_2 : decode cX2_originsThrough 2 = .ok (.newarray .int, 2) := by decide +kernel
theorem dX2_originsThrough_4 : decode cX2_originsThrough 4 = .ok (.astore_n 2, 1) := by decide +kernel
theorem dX2_originsThrough_5 : decode cX2_originsThrough 5 = .ok (.iconst 0, 1) := by decide +kernel
theorem dX2_originsThrough_6 : decode cX2_originsThrough 6 = .ok (.istore_n 3, 1) := by decide +kernel
theorem dX2_originsThrough_7 : decode cX2_originsThrough 7 = .ok (.iload_n 3, 1) := by decide +kernel
theorem dX2_originsThrough_8 : decode cX2_originsThrough 8 = .ok (.aload_n 2, 1) := by decide +kernel
theorem dX2_originsThrough_9 : decode cX2_originsThrough 9 = .ok (.arraylength, 1) := by decide +kernel
theorem dX2_originsThrough_10 : decode cX2_originsThrough 10 = .ok (.if_icmp .ge 37, 3) := by decide +kernel
theorem dX2_originsThrough_13 : decode cX2_originsThrough 13 = .ok (.aload_n 1, 1) := by decide +kernel
theorem dX2_originsThrough_14 : decode cX2_originsThrough 14 = .ok (.iload_n 3, 1) := by decide +kernel
theorem dX2_originsThrough_15 : decode cX2_originsThrough 15 = .ok (.iaload, 1) := by decide +kernel
theorem dX2_originsThrough_16 : decode cX2_originsThrough 16 = .ok (.istore 4, 2) := by decide +kernel
theorem dX2_originsThrough_18 : decode cX2_originsThrough 18 = .ok (.aload_n 2, 1) := by decide +kernel
theorem dX2_originsThrough_19 : decode cX2_originsThrough 19 = .ok (.iload_n 3, 1) := by decide +kernel
theorem dX2_originsThrough_20 : decode cX2_originsThrough 20 = .ok (.iload 4, 2) := by decide +kernel
theorem dX2_originsThrough_22 : decode cX2_originsThrough 22 = .ok (.ifCond .lt 17, 3) := by decide +kernel
theorem dX2_originsThrough_25 : decode cX2_originsThrough 25 = .ok (.iload 4, 2) := by decide +kernel
theorem dX2_originsThrough_27 : decode cX2_originsThrough 27 = .ok (.aload_n 0, 1) := by decide +kernel
theorem dX2_originsThrough_28 : decode cX2_originsThrough 28 = .ok (.arraylength, 1) := by decide +kernel
theorem dX2_originsThrough_29 : decode cX2_originsThrough 29 = .ok (.if_icmp .ge 10, 3) := by decide +kernel
theorem dX2_originsThrough_32 : decode cX2_originsThrough 32 = .ok (.aload_n 0, 1) := by decide +kernel
theorem dX2_originsThrough_33 : decode cX2_originsThrough 33 = .ok (.iload 4, 2) := by decide +kernel
theorem dX2_originsThrough_35 : decode cX2_originsThrough 35 = .ok (.iaload, 1) := by decide +kernel
theorem dX2_originsThrough_36 : decode cX2_originsThrough 36 = .ok (.goto 4, 3) := by decide +kernel
theorem dX2_originsThrough_39 : decode cX2_originsThrough 39 = .ok (.iconst (-1), 1) := by decide +kernel
theorem dX2_originsThrough_40 : decode cX2_originsThrough 40 = .ok (.iastore, 1) := by decide +kernel
theorem dX2_originsThrough_41 : decode cX2_originsThrough 41 = .ok (.iinc 3 1, 3) := by decide +kernel
theorem dX2_originsThrough_44 : decode cX2_originsThrough 44 = .ok (.goto (-37), 3) := by decide +kernel
theorem dX2_originsThrough_47 : decode cX2_originsThrough 47 = .ok (.aload_n 2, 1) := by decide +kernel
theorem dX2_originsThrough_48 : decode cX2_originsThrough 48 = .ok (.areturn, 1) := by decide +kernel
set_option maxRecDepth 20000 in
theorem ggX2_leastWay_X2_firstLike : GoodIn wsX2_leastWay wsX2_firstLike := goodIn_ca (goodIn_r _ [9, 10, 11, 12, 8, 13, 14, 15, 16, 17, 18, 19, 20, 21, 22, 23, 24, 25, 26, 27, 28, 29, 30, 31, 32, 33, 34, 35, 36, 37, 38, 39, 40, 41, 42, 43, 44, 45, 46, 47, 48, 49, 50, 61, 62, 63, 64, 65, 66, 67, 68, 76, 77, 78, 79] (by decide +kernel) (by decide +kernel)) (goodIn_sub (fun _ h => List.mem_cons_of_mem _ (List.mem_append_right _ h)) (by decide +kernel))
set_option maxRecDepth 20000 in
theorem gX2_leastWay_X2_firstLike : GoodIn wsX2_leastWay (wsV RX2 113 RX2 yX2_firstLike wsX2_firstLike) := goodIn_app (goodIn_of _ (by decide +kernel)) ggX2_leastWay_X2_firstLike
set_option maxRecDepth 20000 in
theorem ggX2_leastWay_J7_fill_53178 : GoodIn wsX2_leastWay wsJ7_fill_53178 := goodIn_r _ [54] (by decide +kernel) (by decide +kernel)
set_option maxRecDepth 20000 in
theorem gX2_leastWay_J7_fill_53178 : GoodIn wsX2_leastWay (va_wsS RX2 205 yJ7_fill_53178 wsJ7_fill_53178) := goodIn_app (goodIn_of _ (by decide +kernel)) ggX2_leastWay_J7_fill_53178
set_option maxRecDepth 20000 in
theorem ggX2_leastWay_Jx4a65c_size_8abf5 : GoodIn wsX2_leastWay wsJx4a65c_size_8abf5 := goodIn_r _ [22, 23, 76, 77, 78] (by decide +kernel) (by decide +kernel)
set_option maxRecDepth 20000 in
theorem gX2_leastWay_Jx4a65c_size_8abf5 : GoodIn wsX2_leastWay (wsV RX2 64 RJx4a65c yJx4a65c_size_8abf5 wsJx4a65c_size_8abf5) := goodIn_app (goodIn_of _ (by decide +kernel)) ggX2_leastWay_Jx4a65c_size_8abf5
set_option maxRecDepth 20000 in
theorem ggX2_leastWay_Jx4a65c_get_915e3 : GoodIn wsX2_leastWay wsJx4a65c_get_915e3 := goodIn_r _ [27, 23, 28, 29, 30, 31, 32, 33, 34, 35, 36, 37, 38, 21, 39, 40, 76, 77, 78] (by decide +kernel) (by decide +kernel)
set_option maxRecDepth 20000 in
theorem gX2_leastWay_Jx4a65c_get_915e3 : GoodIn wsX2_leastWay (wsV RX2 172 RJx4a65c yJx4a65c_get_915e3 wsJx4a65c_get_915e3) := goodIn_app (goodIn_of _ (by decide +kernel)) ggX2_leastWay_Jx4a65c_get_915e3
set_option maxRecDepth 20000 in
theorem ggX2_leastWay_X2_reachBy : GoodIn wsX2_leastWay wsX2_reachBy := goodIn_r _ [58, 1, 59, 60, 61, 62, 63, 64, 65, 66, 67, 68, 69, 70, 71, 72, 73, 74, 75] (by decide +kernel) (by decide +kernel)
set_option maxRecDepth 20000 in
theorem gX2_leastWay_X2_reachBy : GoodIn wsX2_leastWay (wsV RX2 210 RX2 yX2_reachBy wsX2_reachBy) := goodIn_app (goodIn_of _ (by decide +kernel)) ggX2_leastWay_X2_reachBy
theorem dX2_leastWay_0 : decode cX2_leastWay 0 = .ok (.aload_n 0, 1) := by decide +kernel
theorem dX2_leastWay_1 : decode cX2_leastWay 1 = .ok (.iload_n 1, 1) := by decide +kernel
theorem dX2_leastWay_2 : decode cX2_leastWay 2 = .ok (.invokevirtual 113, 3) := by decide +kernel
theorem dX2_leastWay_5 : decode cX2_leastWay 5 = .ok (.istore 4, 2) := by decide +kernel
theorem dX2_leastWay_7 : decode cX2_leastWay 7 = .ok (.aload_n 0, 1) := by decide +kernel
theorem dX2_leastWay_8 : decode cX2_leastWay 8 = .ok (.iload_n 2, 1) := by decide +kernel
theorem dX2_leastWay_9 : decode cX2_leastWay 9 = .ok (.invokevirtual 113, 3) := by decide +kernel
theorem dX2_leastWay_12 : decode cX2_leastWay 12 = .ok (.istore 5, 2) := by decide +kernel
theorem dX2_leastWay_14 : decode cX2_leastWay 14 = .ok (.aload_n 0, 1) := by decide +kernel
theorem dX2_leastWay_15 : decode cX2_leastWay 15 = .ok (.getfield 42, 3) := by decide +kernel
theorem dX2_leastWay_18 : decode cX2_leastWay 18 = .ok (.iconst (-1), 1) := by decide +kernel
theorem dX2_leastWay_19 : decode cX2_leastWay 19 = .ok (.invokestatic 205, 3) := by decide +kernel
theorem dX2_leastWay_22 : decode cX2_leastWay 22 = .ok (.aload_n 0, 1) := by decide +kernel
theorem dX2_leastWay_23 : decode cX2_leastWay 23 = .ok (.getfield 42, 3) := by decide +kernel
theorem dX2_leastWay_26 : decode cX2_leastWay 26 = .ok (.iload 4, 2) := by decide +kernel
theorem dX2_leastWay_28 : decode cX2_leastWay 28 = .ok (.iconst 0, 1) := by decide +kernel
theorem dX2_leastWay_29 : decode cX2_leastWay 29 = .ok (.iastore, 1) := by decide +kernel
theorem dX2_leastWay_30 : decode cX2_leastWay 30 = .ok (.iconst 0, 1) := by decide +kernel
theorem dX2_leastWay_31 : decode cX2_leastWay 31 = .ok (.istore 6, 2) := by decide +kernel
theorem dX2_leastWay_33 : decode cX2_leastWay 33 = .ok (.iload 6, 2) := by decide +kernel
theorem dX2_leastWay_35 : decode cX2_leastWay 35 = .ok (.aload_n 0, 1) := by decide +kernel
theorem dX2_leastWay_36 : decode cX2_leastWay 36 = .ok (.getfield 24, 3) := by decide +kernel
theorem dX2_leastWay_39 : decode cX2_leastWay 39 = .ok (.invokevirtual 64, 3) := by decide +kernel
theorem dX2_leastWay_42 : decode cX2_leastWay 42 = .ok (.if_icmp .ge 63, 3) := by decide +kernel
theorem dX2_leastWay_45 : decode cX2_leastWay 45 = .ok (.iconst 0, 1) := by decide +kernel
theorem dX2_leastWay_46 : decode cX2_leastWay 46 = .ok (.istore 7, 2) := by decide +kernel
theorem dX2_leastWay_48 : decode cX2_leastWay 48 = .ok (.iload 7, 2) := by decide +kernel
theorem dX2_leastWay_50 : decode cX2_leastWay 50 = .ok (.aload_n 0, 1) := by decide +kernel
theorem dX2_leastWay_51 : decode cX2_leastWay 51 = .ok (.getfield 24, 3) := by decide +kernel
theorem dX2_leastWay_54 : decode cX2_leastWay 54 = .ok (.invokevirtual 64, 3) := by decide +kernel
theorem dX2_leastWay_57 : decode cX2_leastWay 57 = .ok (.if_icmp .ge 42, 3) := by decide +kernel
theorem dX2_leastWay_60 : decode cX2_leastWay 60 = .ok (.aload_n 0, 1) := by decide +kernel
theorem dX2_leastWay_61 : decode cX2_leastWay 61 = .ok (.getfield 24, 3) := by decide +kernel
theorem dX2_leastWay_64 : decode cX2_leastWay 64 = .ok (.iload 7, 2) := by decide +kernel
theorem dX2_leastWay_66 : decode cX2_leastWay 66 = .ok (.invokevirtual 172, 3) := by decide +kernel
theorem dX2_leastWay_69 : decode cX2_leastWay 69 = .ok (.checkcast 111, 3) := by decide +kernel
theorem dX2_leastWay_72 : decode cX2_leastWay 72 = .ok (.astore 8, 2) := by decide +kernel
theorem dX2_leastWay_74 : decode cX2_leastWay 74 = .ok (.aload_n 0, 1) := by decide +kernel
theorem dX2_leastWay_75 : decode cX2_leastWay 75 = .ok (.aload 8, 2) := by decide +kernel
theorem dX2_leastWay_77 : decode cX2_leastWay 77 = .ok (.iload_n 3, 1) := by decide +kernel
theorem dX2_leastWay_78 : decode cX2_leastWay 78 = .ok (.ifCond .eq 11, 3) := by decide +kernel
theorem dX2_leastWay_81 : decode cX2_leastWay 81 = .ok (.aload 8, 2) := by decide +kernel
theorem dX2_leastWay_83 : decode cX2_leastWay 83 = .ok (.getfield 152, 3) := by decide +kernel
theorem dX2_leastWay_86 : decode cX2_leastWay 86 = .ok (.goto 4, 3) := by decide +kernel
theorem dX2_leastWay_89 : decode cX2_leastWay 89 = .ok (.iconst 1, 1) := by decide +kernel
theorem dX2_leastWay_90 : decode cX2_leastWay 90 = .ok (.invokevirtual 210, 3) := by decide +kernel
theorem dX2_leastWay_93 : decode cX2_leastWay 93 = .ok (.iinc 7 1, 3) := by decide +kernel
theorem dX2_leastWay_96 : decode cX2_leastWay 96 = .ok (.goto (-48), 3) := by decide +kernel
theorem dX2_leastWay_99 : decode cX2_leastWay 99 = .ok (.iinc 6 1, 3) := by decide +kernel
theorem dX2_leastWay_102 : decode cX2_leastWay 102 = .ok (.goto (-69), 3) := by decide +kernel
theorem dX2_leastWay_105 : decode cX2_leastWay 105 = .ok (.aload_n 0, 1) := by decide +kernel
theorem dX2_leastWay_106 : decode cX2_leastWay 106 = .ok (.getfield 42, 3) := by decide +kernel
theorem dX2_leastWay_109 : decode cX2_leastWay 109 = .ok (.iload 5, 2) := by decide +kernel
theorem dX2_leastWay_111 : decode cX2_leastWay 111 = .ok (.iaload, 1) := by decide +kernel
theorem dX2_leastWay_112 : decode cX2_leastWay 112 = .ok (.ireturn, 1) := by decide +kernel
theorem dX2_reachBy_0 : decode cX2_reachBy 0 = .ok (.aload_n 0, 1) := by decide +kernel
theorem dX2_reachBy_1 : decode cX2_reachBy 1 = .ok (.getfield 42, 3) := by decide +kernel
theorem dX2_reachBy_4 : decode cX2_reachBy 4 = .ok (.aload_n 1, 1) := by decide +kernel
theorem dX2_reachBy_5 : decode cX2_reachBy 5 = .ok (.getfield 127, 3) := by decide +kernel
theorem dX2_reachBy_8 : decode cX2_reachBy 8 = .ok (.iaload, 1) := by decide +kernel
theorem dX2_reachBy_9 : decode cX2_reachBy 9 = .ok (.istore_n 3, 1) := by decide +kernel
theorem dX2_reachBy_10 : decode cX2_reachBy 10 = .ok (.iload_n 3, 1) := by decide +kernel
theorem dX2_reachBy_11 : decode cX2_reachBy 11 = .ok (.iconst (-1), 1) := by decide +kernel
theorem dX2_reachBy_12 : decode cX2_reachBy 12 = .ok (.if_icmp .ne 4, 3) := by decide +kernel
theorem dX2_reachBy_15 : decode cX2_reachBy 15 = .ok (.return_, 1) := by decide +kernel
theorem dX2_reachBy_16 : decode cX2_reachBy 16 = .ok (.aload_n 0, 1) := by decide +kernel
theorem dX2_reachBy_17 : decode cX2_reachBy 17 = .ok (.getfield 42, 3) := by decide +kernel
theorem dX2_reachBy_20 : decode cX2_reachBy 20 = .ok (.aload_n 1, 1) := by decide +kernel
theorem dX2_reachBy_21 : decode cX2_reachBy 21 = .ok (.getfield 124, 3) := by decide +kernel
theorem dX2_reachBy_24 : decode cX2_reachBy 24 = .ok (.iaload, 1) := by decide +kernel
theorem dX2_reachBy_25 : decode cX2_reachBy 25 = .ok (.istore 4, 2) := by decide +kernel
theorem dX2_reachBy_27 : decode cX2_reachBy 27 = .ok (.iload 4, 2) := by decide +kernel
theorem dX2_reachBy_29 : decode cX2_reachBy 29 = .ok (.iconst (-1), 1) := by decide +kernel
theorem dX2_reachBy_30 : decode cX2_reachBy 30 = .ok (.if_icmp .eq 11, 3) := by decide +kernel
theorem dX2_reachBy_33 : decode cX2_reachBy 33 = .ok (.iload_n 3, 1) := by decide +kernel
theorem dX2_reachBy_34 : decode cX2_reachBy 34 = .ok (.iload_n 2, 1) := by decide +kernel
theorem dX2_reachBy_35 : decode cX2_reachBy 35 = .ok (.iadd, 1) := by decide +kernel
theorem dX2_reachBy_36 : decode cX2_reachBy 36 = .ok (.iload 4, 2) := by decide +kernel
theorem dX2_reachBy_38 : decode cX2_reachBy 38 = .ok (.if_icmp .ge 15, 3) := by decide +kernel
theorem dX2_reachBy_41 : decode cX2_reachBy 41 = .ok (.aload_n 0, 1) := by decide +kernel
theorem dX2_reachBy_42 : decode cX2_reachBy 42 = .ok (.getfield 42, 3) := by decide +kernel
theorem dX2_reachBy_45 : decode cX2_reachBy 45 = .ok (.aload_n 1, 1) := by decide +kernel
theorem dX2_reachBy_46 : decode cX2_reachBy 46 = .ok (.getfield 124, 3) := by decide +kernel
theorem dX2_reachBy_49 : decode cX2_reachBy 49 = .ok (.iload_n 3, 1) := by decide +kernel
theorem dX2_reachBy_50 : decode cX2_reachBy 50 = .ok (.iload_n 2, 1) := by decide +kernel
theorem dX2_reachBy_51 : decode cX2_reachBy 51 = .ok (.iadd, 1) := by decide +kernel
theorem dX2_reachBy_52 : decode cX2_reachBy 52 = .ok (.iastore, 1) := by decide +kernel
theorem dX2_reachBy_53 : decode cX2_reachBy 53 = .ok (.return_, 1) := by decide +kernel
set_option maxRecDepth 20000 in
theorem ggX2_install_Jx4a65c_size_8abf5 : GoodIn wsX2_install wsJx4a65c_size_8abf5 := goodIn_r _ [7, 8, 88, 89, 90] (by decide +kernel) (by decide +kernel)
set_option maxRecDepth 20000 in
theorem gX2_install_Jx4a65c_size_8abf5 : GoodIn wsX2_install (wsV RX2 64 RJx4a65c yJx4a65c_size_8abf5 wsJx4a65c_size_8abf5) := goodIn_app (goodIn_of _ (by decide +kernel)) ggX2_install_Jx4a65c_size_8abf5
set_option maxRecDepth 20000 in
theorem ggX2_install_Jx4a65c_remove_915e3 : GoodIn wsX2_install wsJx4a65c_remove_915e3 := goodIn_r _ [12, 8, 13, 14, 15, 16, 17, 18, 19, 20, 21, 22, 23, 24, 6, 25, 26, 27, 28, 29, 30, 31, 88, 89, 90] (by decide +kernel) (by decide +kernel)
set_option maxRecDepth 20000 in
theorem gX2_install_Jx4a65c_remove_915e3 : GoodIn wsX2_install (wsV RX2 176 RJx4a65c yJx4a65c_remove_915e3 wsJx4a65c_remove_915e3) := goodIn_app (goodIn_of _ (by decide +kernel)) ggX2_install_Jx4a65c_remove_915e3
set_option maxRecDepth 20000 in
theorem ggX2_install_Jx4a65c_add_9ea2d : GoodIn wsX2_install wsJx4a65c_add_9ea2d := goodIn_r _ [35, 26, 27, 13, 8, 36, 37, 38, 6, 39, 40, 41, 42, 43, 44, 45, 46, 47, 48, 49, 50, 51, 52, 53, 54, 55, 56, 57, 58, 59, 60, 61, 62, 63, 64, 65, 66, 67, 68, 69, 70, 71, 72, 73, 74, 75, 76, 77, 78, 79, 29, 30, 31, 88, 89, 90] (by decide +kernel) (by decide +kernel)
set_option maxRecDepth 20000 in
theorem gX2_install_Jx4a65c_add_9ea2d : GoodIn wsX2_install (wsV RX2 60 RJx4a65c yJx4a65c_add_9ea2d wsJx4a65c_add_9ea2d) := goodIn_app (goodIn_of _ (by decide +kernel)) ggX2_install_Jx4a65c_add_9ea2d
theorem dX2_install_0 : decode cX2_install 0 = .ok (.aload_n 0, 1) := by decide +kernel
theorem dX2_install_1 : decode cX2_install 1 = .ok (.getfield 36, 3) := by decide +kernel
theorem dX2_install_4 : decode cX2_install 4 = .ok (.invokevirtual 64, 3) := by decide +kernel
theorem dX2_install_7 : decode cX2_install 7 = .ok (.bipush 20, 2) := by decide +kernel
theorem dX2_install_9 : decode cX2_install 9 = .ok (.if_icmp .lt 12, 3) := by decide +kernel
theorem dX2_install_12 : decode cX2_install 12 = .ok (.aload_n 0, 1) := by decide +kernel
theorem dX2_install_13 : decode cX2_install 13 = .ok (.getfield 36, 3) := by decide +kernel
theorem dX2_install_16 : decode cX2_install 16 = .ok (.iconst 0, 1) := by decide +kernel
theorem dX2_install_17 : decode cX2_install 17 = .ok (.invokevirtual 176, 3) := by decide +kernel
theorem dX2_install_20 : decode cX2_install 20 = .ok (.pop, 1) := by decide +kernel
theorem dX2_install_21 : decode cX2_install 21 = .ok (.aload_n 0, 1) := by decide +kernel
theorem dX2_install_22 : decode cX2_install 22 = .ok (.getfield 36, 3) := by decide +kernel
theorem dX2_install_25 : decode cX2_install 25 = .ok (.aload_n 0, 1) := by decide +kernel
theorem dX2_install_26 : decode cX2_install 26 = .ok (.getfield 32, 3) := by decide +kernel
theorem dX2_install_29 : decode cX2_install 29 = .ok (.invokevirtual 60, 3) := by decide +kernel
theorem dX2_install_32 : decode cX2_install 32 = .ok (.pop, 1) := by decide +kernel
theorem dX2_install_33 : decode cX2_install 33 = .ok (.aload_n 0, 1) := by decide +kernel
theorem dX2_install_34 : decode cX2_install 34 = .ok (.aload_n 1, 1) := by decide +kernel
theorem dX2_install_35 : decode cX2_install 35 = .ok (.putfield 32, 3) := by decide +kernel
theorem dX2_install_38 : decode cX2_install 38 = .ok (.aload_n 0, 1) := by decide +kernel
theorem dX2_install_39 : decode cX2_install 39 = .ok (.getfield 36, 3) := by decide +kernel
theorem dX2_install_42 : decode cX2_install 42 = .ok (.invokevirtual 64, 3) := by decide +kernel
theorem dX2_install_45 : decode cX2_install 45 = .ok (.ireturn, 1) := by decide +kernel
theorem dX2_digestOfBytes_0 : decode cX2_digestOfBytes 0 = .ok (.lload_n 0, 1) := by decide +kernel
theorem dX2_digestOfBytes_1 : decode cX2_digestOfBytes 1 = .ok (.ldc2_w 185, 3) := by decide +kernel
theorem dX2_digestOfBytes_4 : decode cX2_digestOfBytes 4 = .ok (.lmul, 1) := by decide +kernel
theorem dX2_digestOfBytes_5 : decode cX2_digestOfBytes 5 = .ok (.iload_n 3, 1) := by decide +kernel
theorem dX2_digestOfBytes_6 : decode cX2_digestOfBytes 6 = .ok (.i2l, 1) := by decide +kernel
theorem dX2_digestOfBytes_7 : decode cX2_digestOfBytes 7 = .ok (.ladd, 1) := by decide +kernel
theorem dX2_digestOfBytes_8 : decode cX2_digestOfBytes 8 = .ok (.lstore 4, 2) := by decide +kernel
theorem dX2_digestOfBytes_10 : decode cX2_digestOfBytes 10 = .ok (.iconst 0, 1) := by decide +kernel
theorem dX2_digestOfBytes_11 : decode cX2_digestOfBytes 11 = .ok (.istore 6, 2) := by decide +kernel
theorem dX2_digestOfBytes_13 : decode cX2_digestOfBytes 13 = .ok (.iload 6, 2) := by decide +kernel
theorem dX2_digestOfBytes_15 : decode cX2_digestOfBytes 15 = .ok (.iload_n 3, 1) := by decide +kernel
theorem dX2_digestOfBytes_16 : decode cX2_digestOfBytes 16 = .ok (.if_icmp .ge 23, 3) := by decide +kernel
theorem dX2_digestOfBytes_19 : decode cX2_digestOfBytes 19 = .ok (.lload 4, 2) := by decide +kernel
theorem dX2_digestOfBytes_21 : decode cX2_digestOfBytes 21 = .ok (.ldc2_w 185, 3) := by decide +kernel
theorem dX2_digestOfBytes_24 : decode cX2_digestOfBytes 24 = .ok (.lmul, 1) := by decide +kernel
theorem dX2_digestOfBytes_25 : decode cX2_digestOfBytes 25 = .ok (.aload_n 2, 1) := by decide +kernel
theorem dX2_digestOfBytes_26 : decode cX2_digestOfBytes 26 = .ok (.iload 6, 2) := by decide +kernel
theorem dX2_digestOfBytes_28 : decode cX2_digestOfBytes 28 = .ok (.iaload, 1) := by decide +kernel
theorem dX2_digestOfBytes_29 : decode cX2_digestOfBytes 29 = .ok (.i2l, 1) := by decide +kernel
theorem dX2_digestOfBytes_30 : decode cX2_digestOfBytes 30 = .ok (.ladd, 1) := by decide +kernel
theorem dX2_digestOfBytes_31 : decode cX2_digestOfBytes 31 = .ok (.lstore 4, 2) := by decide +kernel
theorem dX2_digestOfBytes_33 : decode cX2_digestOfBytes 33 = .ok (.iinc 6 1, 3) := by decide +kernel
theorem dX2_digestOfBytes_36 : decode cX2_digestOfBytes 36 = .ok (.goto (-23), 3) := by decide +kernel
theorem dX2_digestOfBytes_39 : decode cX2_digestOfBytes 39 = .ok (.lload 4, 2) := by decide +kernel
theorem dX2_digestOfBytes_41 : decode cX2_digestOfBytes 41 = .ok (.lreturn, 1) := by decide +kernel
set_option maxRecDepth 20000 in
theorem ggX2_digestOfPatch_X0_tell : GoodIn wsX2_digestOfPatch wsX0_tell := goodIn_r _ [7, 8, 9, 10, 11, 12, 13, 14, 15, 16, 17, 18, 19, 20, 21, 22, 23, 24] (by decide +kernel) (by decide +kernel)
set_option maxRecDepth 20000 in
theorem gX2_digestOfPatch_X0_tell : GoodIn wsX2_digestOfPatch (wsV RX2 149 RX0 yX0_tell wsX0_tell) := goodIn_app (goodIn_of _ (by decide +kernel)) ggX2_digestOfPatch_X0_tell
theorem dX2_digestOfPatch_0 : decode cX2_digestOfPatch 0 = .ok (.lload_n 0, 1) := by decide +kernel
theorem dX2_digestOfPatch_1 : decode cX2_digestOfPatch 1 = .ok (.ldc2_w 185, 3) := by decide +kernel
theorem dX2_digestOfPatch_4 : decode cX2_digestOfPatch 4 = .ok (.lmul, 1) := by decide +kernel
theorem dX2_digestOfPatch_5 : decode cX2_digestOfPatch 5 = .ok (.aload_n 2, 1) := by decide +kernel
theorem dX2_digestOfPatch_6 : decode cX2_digestOfPatch 6 = .ok (.getfield 142, 3) := by decide +kernel
theorem dX2_digestOfPatch_9 : decode cX2_digestOfPatch 9 = .ok (.arraylength, 1) := by decide +kernel
theorem dX2_digestOfPatch_10 : decode cX2_digestOfPatch 10 = .ok (.i2l, 1) := by decide +kernel
theorem dX2_digestOfPatch_11 : decode cX2_digestOfPatch 11 = .ok (.ladd, 1) := by decide +kernel
theorem dX2_digestOfPatch_12 : decode cX2_digestOfPatch 12 = .ok (.lstore_n 3, 1) := by decide +kernel
theorem dX2_digestOfPatch_13 : decode cX2_digestOfPatch 13 = .ok (.iconst 0, 1) := by decide +kernel
theorem dX2_digestOfPatch_14 : decode cX2_digestOfPatch 14 = .ok (.istore 5, 2) := by decide +kernel
theorem dX2_digestOfPatch_16 : decode cX2_digestOfPatch 16 = .ok (.iload 5, 2) := by decide +kernel
theorem dX2_digestOfPatch_18 : decode cX2_digestOfPatch 18 = .ok (.aload_n 2, 1) := by decide +kernel
theorem dX2_digestOfPatch_19 : decode cX2_digestOfPatch 19 = .ok (.getfield 142, 3) := by decide +kernel
theorem dX2_digestOfPatch_22 : decode cX2_digestOfPatch 22 = .ok (.arraylength, 1) := by decide +kernel
theorem dX2_digestOfPatch_23 : decode cX2_digestOfPatch 23 = .ok (.if_icmp .ge 40, 3) := by decide +kernel
theorem dX2_digestOfPatch_26 : decode cX2_digestOfPatch 26 = .ok (.iconst 0, 1) := by decide +kernel
theorem dX2_digestOfPatch_27 : decode cX2_digestOfPatch 27 = .ok (.istore 6, 2) := by decide +kernel
theorem dX2_digestOfPatch_29 : decode cX2_digestOfPatch 29 = .ok (.iload 6, 2) := by decide +kernel
theorem dX2_digestOfPatch_31 : decode cX2_digestOfPatch 31 = .ok (.iconst 3, 1) := by decide +kernel
theorem dX2_digestOfPatch_32 : decode cX2_digestOfPatch 32 = .ok (.if_icmp .gt 25, 3) := by decide +kernel
theorem dX2_digestOfPatch_35 : decode cX2_digestOfPatch 35 = .ok (.lload_n 3, 1) := by decide +kernel
theorem dX2_digestOfPatch_36 : decode cX2_digestOfPatch 36 = .ok (.ldc2_w 185, 3) := by decide +kernel
theorem dX2_digestOfPatch_39 : decode cX2_digestOfPatch 39 = .ok (.lmul, 1) := by decide +kernel
theorem dX2_digestOfPatch_40 : decode cX2_digestOfPatch 40 = .ok (.aload_n 2, 1) := by decide +kernel
theorem dX2_digestOfPatch_41 : decode cX2_digestOfPatch 41 = .ok (.iload 5, 2) := by decide +kernel
theorem dX2_digestOfPatch_43 : decode cX2_digestOfPatch 43 = .ok (.iload 6, 2) := by decide +kernel
theorem dX2_digestOfPatch_45 : decode cX2_digestOfPatch 45 = .ok (.invokevirtual 149, 3) := by decide +kernel
theorem dX2_digestOfPatch_48 : decode cX2_digestOfPatch 48 = .ok (.i2l, 1) := by decide +kernel
theorem dX2_digestOfPatch_49 : decode cX2_digestOfPatch 49 = .ok (.ladd, 1) := by decide +kernel
theorem dX2_digestOfPatch_50 : decode cX2_digestOfPatch 50 = .ok (.lstore_n 3, 1) := by decide +kernel
theorem dX2_digestOfPatch_51 : decode cX2_digestOfPatch 51 = .ok (.iinc 6 1, 3) := by decide +kernel
theorem dX2_digestOfPatch_54 : decode cX2_digestOfPatch 54 = .ok (.goto (-25), 3) := by decide +kernel
theorem dX2_digestOfPatch_57 : decode cX2_digestOfPatch 57 = .ok (.iinc 5 1, 3) := by decide +kernel
theorem dX2_digestOfPatch_60 : decode cX2_digestOfPatch 60 = .ok (.goto (-44), 3) := by decide +kernel
theorem dX2_digestOfPatch_63 : decode cX2_digestOfPatch 63 = .ok (.lload_n 3, 1) := by decide +kernel
theorem dX2_digestOfPatch_64 : decode cX2_digestOfPatch 64 = .ok (.lreturn, 1) := by decide +kernel
end
section
theorem dX3_init_0 : decode cX3_init 0 = .ok (.aload_n 0, 1) := by decide +kernel
theorem dX3_init_1 : decode cX3_init 1 = .ok (.invokespecial 1, 3) := by decide +kernel
theorem dX3_init_4 : decode cX3_init 4 = .ok (.aload_n 0, 1) := by decide +kernel
theorem dX3_init_5 : decode cX3_init 5 = .ok (.sipush 400, 3) := by decide +kernel
theorem dX3_init_8 : decode cX3_init 8 = .ok (.newarray .int, 2) := by decide +kernel
theorem dX3_init_10 : decode cX3_init 10 = .ok (.putfield 9, 3) := by decide +kernel
theorem dX3_init_13 : decode cX3_init 13 = .ok (.aload_n 0, 1) := by decide +kernel
theorem dX3_init_14 : decode cX3_init 14 = .ok (.bipush 12, 2) := by decide +kernel
theorem dX3_init_16 : decode cX3_init 16 = .ok (.anewarray 13, 3) := by decide +kernel
theorem dX3_init_19 : decode cX3_init 19 = .ok (.putfield 14, 3) := by decide +kernel
theorem dX3_init_22 : decode cX3_init 22 = .ok (.aload_n 0, 1) := by decide +kernel
theorem dX3_init_23 : decode cX3_init 23 = .ok (.bipush 12, 2) := by decide +kernel
theorem dX3_init_25 : decode cX3_init 25 = .ok (.anewarray 13, 3) := by decide +kernel
theorem dX3_init_28 : decode cX3_init 28 = .ok (.putfield 18, 3) := by decide +kernel
theorem dX3_init_31 : decode cX3_init 31 = .ok (.aload_n 0, 1) := by decide +kernel
theorem dX3_init_32 : decode cX3_init 32 = .ok (.bipush 12, 2) := by decide +kernel
theorem dX3_init_34 : decode cX3_init 34 = .ok (.anewarray 13, 3) := by decide +kernel
theorem dX3_init_37 : decode cX3_init 37 = .ok (.putfield 21, 3) := by decide +kernel
theorem dX3_init_40 : decode cX3_init 40 = .ok (.aload_n 0, 1) := by decide +kernel
theorem dX3_init_41 : decode cX3_init 41 = .ok (.bipush 12, 2) := by decide +kernel
theorem dX3_init_43 : decode cX3_init 43 = .ok (.anewarray 13, 3) := by decide +kernel
theorem dX3_init_46 : decode cX3_init 46 = .ok (.putfield 24, 3) := by decide +kernel
theorem dX3_init_49 : decode cX3_init 49 = .ok (.aload_n 0, 1) := by decide +kernel
theorem dX3_init_50 : decode cX3_init 50 = .ok (.iconst 0, 1) := by decide +kernel
theorem dX3_init_51 : decode cX3_init 51 = .ok (.newarray .int, 2) := by decide +kernel
theorem dX3_init_53 : decode cX3_init 53 = .ok (.putfield 27, 3) := by decide +kernel
theorem dX3_init_56 : decode cX3_init 56 = .ok (.aload_n 0, 1) := by decide +kernel
theorem dX3_init_57 : decode cX3_init 57 = .ok (.bipush 20, 2) := by decide +kernel
theorem dX3_init_59 : decode cX3_init 59 = .ok (.anewarray 13, 3) := by decide +kernel
theorem dX3_init_62 : decode cX3_init 62 = .ok (.putfield 30, 3) := by decide +kernel
theorem dX3_init_65 : decode cX3_init 65 = .ok (.return_, 1) := by decide +kernel
theorem dX3_thrown_0 : decode cX3_thrown 0 = .ok (.aload_n 0, 1) := by decide +kernel
theorem dX3_thrown_1 : decode cX3_thrown 1 = .ok (.getfield 33, 3) := by decide +kernel
theorem dX3_thrown_4 : decode cX3_thrown 4 = .ok (.ireturn, 1) := by decide +kernel
theorem dX3_fail_0 : decode cX3_fail 0 = .ok (.aload_n 0, 1) := by decide +kernel
theorem dX3_fail_1 : decode cX3_fail 1 = .ok (.iload_n 1, 1) := by decide +kernel
theorem dX3_fail_2 : decode cX3_fail 2 = .ok (.putfield 33, 3) := by decide +kernel
theorem dX3_fail_5 : decode cX3_fail 5 = .ok (.iconst 0, 1) := by decide +kernel
theorem dX3_fail_6 : decode cX3_fail 6 = .ok (.ireturn, 1) := by decide +kernel
theorem dX3_isIn_0 : decode cX3_isIn 0 = .ok (.iload_n 0, 1) := by decide +kernel
theorem dX3_isIn_1 : decode cX3_isIn 1 = .ok (.iload_n 1, 1) := by decide +kernel
theorem dX3_isIn_2 : decode cX3_isIn 2 = .ok (.if_icmp .lt 12, 3) := by decide +kernel
theorem dX3_isIn_5 : decode cX3_isIn 5 = .ok (.iload_n 0, 1) := by decide +kernel
theorem dX3_isIn_6 : decode cX3_isIn 6 = .ok (.iload_n 2, 1) := by decide +kernel
theorem dX3_isIn_7 : decode cX3_isIn 7 = .ok (.if_icmp .gt 7, 3) := by decide +kernel
theorem dX3_isIn_10 : decode cX3_isIn 10 = .ok (.iconst 1, 1) := by decide +kernel
theorem dX3_isIn_11 : decode cX3_isIn 11 = .ok (.goto 4, 3) := by decide +kernel
theorem dX3_isIn_14 : decode cX3_isIn 14 = .ok (.iconst 0, 1) := by decide +kernel
theorem dX3_isIn_15 : decode cX3_isIn 15 = .ok (.ireturn, 1) := by decide +kernel
set_option maxRecDepth 20000 in
theorem ggX3_isVersion_X3_isIn : GoodIn wsX3_isVersion wsX3_isIn := goodIn_r _ [5] (by decide +kernel) (by decide +kernel)
set_option maxRecDepth 20000 in
theorem gX3_isVersion_X3_isIn : GoodIn wsX3_isVersion (va_wsS RX3 40 yX3_isIn wsX3_isIn) := goodIn_app (goodIn_of _ (by decide +kernel)) ggX3_isVersion_X3_isIn
theorem dX3_isVersion_0 : decode cX3_isVersion 0 = .ok (.iload_n 1, 1) := by decide +kernel
theorem dX3_isVersion_1 : decode cX3_isVersion 1 = .ok (.iconst 0, 1) := by decide +kernel
theorem dX3_isVersion_2 : decode cX3_isVersion 2 = .ok (.aload_n 0, 1) := by decide +kernel
theorem dX3_isVersion_3 : decode cX3_isVersion 3 = .ok (.getfield 37, 3) := by decide +kernel
theorem dX3_isVersion_6 : decode cX3_isVersion 6 = .ok (.iconst 1, 1) := by decide +kernel
theorem dX3_isVersion_7 : decode cX3_isVersion 7 = .ok (.isub, 1) := by decide +kernel
theorem dX3_isVersion_8 : decode cX3_isVersion 8 = .ok (.invokestatic 40, 3) := by decide +kernel
theorem dX3_isVersion_11 : decode cX3_isVersion 11 = .ok (.ireturn, 1) := by decide +kernel
set_option maxRecDepth 20000 in
theorem ggX3_isPatch_X3_isIn : GoodIn wsX3_isPatch wsX3_isIn := goodIn_r _ [5] (by decide +kernel) (by decide +kernel)
set_option maxRecDepth 20000 in
theorem gX3_isPatch_X3_isIn : GoodIn wsX3_isPatch (va_wsS RX3 40 yX3_isIn wsX3_isIn) := goodIn_app (goodIn_of _ (by decide +kernel)) ggX3_isPatch_X3_isIn
theorem dX3_isPatch_0 : decode cX3_isPatch 0 = .ok (.iload_n 1, 1) := by decide +kernel
theorem dX3_isPatch_1 : decode cX3_isPatch 1 = .ok (.iconst 0, 1) := by decide +kernel
theorem dX3_isPatch_2 : decode cX3_isPatch 2 = .ok (.aload_n 0, 1) := by decide +kernel
theorem dX3_isPatch_3 : decode cX3_isPatch 3 = .ok (.getfield 44, 3) := by decide +kernel
theorem dX3_isPatch_6 : decode cX3_isPatch 6 = .ok (.iconst 1, 1) := by decide +kernel
theorem dX3_isPatch_7 : decode cX3_isPatch 7 = .ok (.isub, 1) := by decide +kernel
theorem dX3_isPatch_8 : decode cX3_isPatch 8 = .ok (.invokestatic 40, 3) := by decide +kernel
theorem dX3_isPatch_11 : decode cX3_isPatch 11 = .ok (.ireturn, 1) := by decide +kernel
set_option maxRecDepth 20000 in
theorem ggX3_isSize_X3_isIn : GoodIn wsX3_isSize wsX3_isIn := goodIn_r _ [4] (by decide +kernel) (by decide +kernel)
set_option maxRecDepth 20000 in
theorem gX3_isSize_X3_isIn : GoodIn wsX3_isSize (va_wsS RX3 40 yX3_isIn wsX3_isIn) := goodIn_app (goodIn_of _ (by decide +kernel)) ggX3_isSize_X3_isIn
theorem dX3_isSize_0 : decode cX3_isSize 0 = .ok (.iload_n 0, 1) := by decide +kernel
theorem dX3_isSize_1 : decode cX3_isSize 1 = .ok (.iconst 2, 1) := by decide +kernel
theorem dX3_isSize_2 : decode cX3_isSize 2 = .ok (.bipush 32, 2) := by decide +kernel
theorem dX3_isSize_4 : decode cX3_isSize 4 = .ok (.invokestatic 40, 3) := by decide +kernel
theorem dX3_isSize_7 : decode cX3_isSize 7 = .ok (.ireturn, 1) := by decide +kernel
theorem dX3_are_0 : decode cX3_are 0 = .ok (.aload_n 0, 1) := by decide +kernel
theorem dX3_are_1 : decode cX3_are 1 = .ok (.arraylength, 1) := by decide +kernel
theorem dX3_are_2 : decode cX3_are 2 = .ok (.aload_n 1, 1) := by decide +kernel
theorem dX3_are_3 : decode cX3_are 3 = .ok (.arraylength, 1) := by decide +kernel
theorem dX3_are_4 : decode cX3_are 4 = .ok (.if_icmp .ne 7, 3) := by decide +kernel
theorem dX3_are_7 : decode cX3_are 7 = .ok (.iconst 1, 1) := by decide +kernel
theorem dX3_are_8 : decode cX3_are 8 = .ok (.goto 4, 3) := by decide +kernel
theorem dX3_are_11 : decode cX3_are 11 = .ok (.iconst 0, 1) := by decide +kernel
theorem dX3_are_12 : decode cX3_are 12 = .ok (.istore_n 2, 1) := by decide +kernel
theorem dX3_are_13 : decode cX3_are 13 = .ok (.iconst 0, 1) := by decide +kernel
theorem dX3_are_14 : decode cX3_are 14 = .ok (.istore_n 3, 1) := by decide +kernel
theorem dX3_are_15 : decode cX3_are 15 = .ok (.iload_n 3, 1) := by decide +kernel
theorem dX3_are_16 : decode cX3_are 16 = .ok (.aload_n 0, 1) := by decide +kernel
theorem dX3_are_17 : decode cX3_are 17 = .ok (.arraylength, 1) := by decide +kernel
theorem dX3_are_18 : decode cX3_are 18 = .ok (.if_icmp .ge 28, 3) := by decide +kernel
theorem dX3_are_21 : decode cX3_are 21 = .ok (.iload_n 2, 1) := by decide +kernel
theorem dX3_are_22 : decode cX3_are 22 = .ok (.ifCond .eq 24, 3) := by decide +kernel
theorem dX3_are_25 : decode cX3_are 25 = .ok (.aload_n 0, 1) := by decide +kernel
theorem dX3_are_26 : decode cX3_are 26 = .ok (.iload_n 3, 1) := by decide +kernel
theorem dX3_are_27 : decode cX3_are 27 = .ok (.iaload, 1) := by decide +kernel
theorem dX3_are_28 : decode cX3_are 28 = .ok (.aload_n 1, 1) := by decide +kernel
theorem dX3_are_29 : decode cX3_are 29 = .ok (.iload_n 3, 1) := by decide +kernel
theorem dX3_are_30 : decode cX3_are 30 = .ok (.iaload, 1) := by decide +kernel
theorem dX3_are_31 : decode cX3_are 31 = .ok (.if_icmp .ne 7, 3) := by decide +kernel
theorem dX3_are_34 : decode cX3_are 34 = .ok (.iconst 1, 1) := by decide +kernel
theorem dX3_are_35 : decode cX3_are 35 = .ok (.goto 4, 3) := by decide +kernel
theorem dX3_are_38 : decode cX3_are 38 = .ok (.iconst 0, 1) := by decide +kernel
theorem dX3_are_39 : decode cX3_are 39 = .ok (.istore_n 2, 1) := by decide +kernel
theorem dX3_are_40 : decode cX3_are 40 = .ok (.iinc 3 1, 3) := by decide +kernel
theorem dX3_are_43 : decode cX3_are 43 = .ok (.goto (-28), 3) := by decide +kernel
theorem dX3_are_46 : decode cX3_are 46 = .ok (.iload_n 2, 1) := by decide +kernel
theorem dX3_are_47 : decode cX3_are 47 = .ok (.ireturn, 1) := by decide +kernel
set_option maxRecDepth 20000 in
theorem ggX3_feed_X3_isIn : GoodIn wsX3_feed wsX3_isIn := goodIn_r _ [8] (by decide +kernel) (by decide +kernel)
set_option maxRecDepth 20000 in
theorem gX3_feed_X3_isIn : GoodIn wsX3_feed (va_wsS RX3 40 yX3_isIn wsX3_isIn) := goodIn_app (goodIn_of _ (by decide +kernel)) ggX3_feed_X3_isIn
set_option maxRecDepth 20000 in
theorem ggX3_feed_X3_fail : GoodIn wsX3_feed wsX3_fail := goodIn_r _ [12, 1, 13, 14, 15, 16, 17, 18, 19, 20, 21, 22, 23, 24] (by decide +kernel) (by decide +kernel)
set_option maxRecDepth 20000 in
theorem gX3_feed_X3_fail : GoodIn wsX3_feed (wsV RX3 47 RX3 yX3_fail wsX3_fail) := goodIn_app (goodIn_of _ (by decide +kernel)) ggX3_feed_X3_fail
theorem dX3_feed_0 : decode cX3_feed 0 = .ok (.aload_n 0, 1) := by decide +kernel
theorem dX3_feed_1 : decode cX3_feed 1 = .ok (.iconst 0, 1) := by decide +kernel
theorem dX3_feed_2 : decode cX3_feed 2 = .ok (.putfield 33, 3) := by decide +kernel
theorem dX3_feed_5 : decode cX3_feed 5 = .ok (.iload_n 3, 1) := by decide +kernel
theorem dX3_feed_6 : decode cX3_feed 6 = .ok (.iconst 1, 1) := by decide +kernel
theorem dX3_feed_7 : decode cX3_feed 7 = .ok (.bipush 8, 2) := by decide +kernel
theorem dX3_feed_9 : decode cX3_feed 9 = .ok (.invokestatic 40, 3) := by decide +kernel
theorem dX3_feed_12 : decode cX3_feed 12 = .ok (.ifCond .ne 9, 3) := by decide +kernel
theorem dX3_feed_15 : decode cX3_feed 15 = .ok (.aload_n 0, 1) := by decide +kernel
theorem dX3_feed_16 : decode cX3_feed 16 = .ok (.iconst 1, 1) := by decide +kernel
theorem dX3_feed_17 : decode cX3_feed 17 = .ok (.invokevirtual 47, 3) := by decide +kernel
theorem dX3_feed_20 : decode cX3_feed 20 = .ok (.ireturn, 1) := by decide +kernel
theorem dX3_feed_21 : decode cX3_feed 21 = .ok (.aload_n 0, 1) := by decide +kernel
theorem dX3_feed_22 : decode cX3_feed 22 = .ok (.getfield 51, 3) := by decide +kernel
theorem dX3_feed_25 : decode cX3_feed 25 = .ok (.iload_n 3, 1) := by decide +kernel
theorem dX3_feed_26 : decode cX3_feed 26 = .ok (.iadd, 1) := by decide +kernel
theorem dX3_feed_27 : decode cX3_feed 27 = .ok (.sipush 400, 3) := by decide +kernel
theorem dX3_feed_30 : decode cX3_feed 30 = .ok (.if_icmp .le 9, 3) := by decide +kernel
theorem dX3_feed_33 : decode cX3_feed 33 = .ok (.aload_n 0, 1) := by decide +kernel
theorem dX3_feed_34 : decode cX3_feed 34 = .ok (.iconst 2, 1) := by decide +kernel
theorem dX3_feed_35 : decode cX3_feed 35 = .ok (.invokevirtual 47, 3) := by decide +kernel
theorem dX3_feed_38 : decode cX3_feed 38 = .ok (.ireturn, 1) := by decide +kernel
theorem dX3_feed_39 : decode cX3_feed 39 = .ok (.iload_n 3, 1) := by decide +kernel
theorem dX3_feed_40 : decode cX3_feed 40 = .ok (.iconst 1, 1) := by decide +kernel
theorem dX3_feed_41 : decode cX3_feed 41 = .ok (.isub, 1) := by decide +kernel
theorem dX3_feed_42 : decode cX3_feed 42 = .ok (.istore 4, 2) := by decide +kernel
theorem dX3_feed_44 : decode cX3_feed 44 = .ok (.iload 4, 2) := by decide +kernel
theorem dX3_feed_46 : decode cX3_feed 46 = .ok (.ifCond .lt 40, 3) := by decide +kernel
theorem dX3_feed_49 : decode cX3_feed 49 = .ok (.aload_n 0, 1) := by decide +kernel
theorem dX3_feed_50 : decode cX3_feed 50 = .ok (.getfield 9, 3) := by decide +kernel
theorem dX3_feed_53 : decode cX3_feed 53 = .ok (.aload_n 0, 1) := by decide +kernel
theorem dX3_feed_54 : decode cX3_feed 54 = .ok (.getfield 51, 3) := by decide +kernel
theorem dX3_feed_57 : decode cX3_feed 57 = .ok (.lload_n 1, 1) := by decide +kernel
theorem dX3_feed_58 : decode cX3_feed 58 = .ok (.bipush 8, 2) := by decide +kernel
theorem dX3_feed_60 : decode cX3_feed 60 = .ok (.iload 4, 2) := by decide +kernel
theorem dX3_feed_62 : decode cX3_feed 62 = .ok (.imul, 1) := by decide +kernel
theorem dX3_feed_63 : decode cX3_feed 63 = .ok (.lushr, 1) := by decide +kernel
theorem dX3_feed_64 : decode cX3_feed 64 = .ok (.ldc2_w 54, 3) := by decide +kernel
theorem dX3_feed_67 : decode cX3_feed 67 = .ok (.land, 1) := by decide +kernel
theorem dX3_feed_68 : decode cX3_feed 68 = .ok (.l2i, 1) := by decide +kernel
theorem dX3_feed_69 : decode cX3_feed 69 = .ok (.iastore, 1) := by decide +kernel
theorem dX3_feed_70 : decode cX3_feed 70 = .ok (.aload_n 0, 1) := by decide +kernel
theorem dX3_feed_71 : decode cX3_feed 71 = .ok (.dup, 1) := by decide +kernel
theorem dX3_feed_72 : decode cX3_feed 72 = .ok (.getfield 51, 3) := by decide +kernel
theorem dX3_feed_75 : decode cX3_feed 75 = .ok (.iconst 1, 1) := by decide +kernel
theorem dX3_feed_76 : decode cX3_feed 76 = .ok (.iadd, 1) := by decide +kernel
theorem dX3_feed_77 : decode cX3_feed 77 = .ok (.putfield 51, 3) := by decide +kernel
theorem dX3_feed_80 : decode cX3_feed 80 = .ok (.iinc 4 (-1), 3) := by decide +kernel
theorem dX3_feed_83 : decode cX3_feed 83 = .ok (.goto (-39), 3) := by decide +kernel
theorem dX3_feed_86 : decode cX3_feed 86 = .ok (.aload_n 0, 1) := by decide +kernel
theorem dX3_feed_87 : decode cX3_feed 87 = .ok (.getfield 51, 3) := by decide +kernel
theorem dX3_feed_90 : decode cX3_feed 90 = .ok (.ireturn, 1) := by decide +kernel
theorem dX3_keep_0 : decode cX3_keep 0 = .ok (.aload_n 0, 1) := by decide +kernel
theorem dX3_keep_1 : decode cX3_keep 1 = .ok (.getfield 14, 3) := by decide +kernel
theorem dX3_keep_4 : decode cX3_keep 4 = .ok (.aload_n 0, 1) := by decide +kernel
theorem dX3_keep_5 : decode cX3_keep 5 = .ok (.getfield 37, 3) := by decide +kernel
theorem dX3_keep_8 : decode cX3_keep 8 = .ok (.aload_n 1, 1) := by decide +kernel
theorem dX3_keep_9 : decode cX3_keep 9 = .ok (.aastore, 1) := by decide +kernel
theorem dX3_keep_10 : decode cX3_keep 10 = .ok (.aload_n 0, 1) := by decide +kernel
theorem dX3_keep_11 : decode cX3_keep 11 = .ok (.dup, 1) := by decide +kernel
theorem dX3_keep_12 : decode cX3_keep 12 = .ok (.getfield 37, 3) := by decide +kernel
theorem dX3_keep_15 : decode cX3_keep 15 = .ok (.iconst 1, 1) := by decide +kernel
theorem dX3_keep_16 : decode cX3_keep 16 = .ok (.iadd, 1) := by decide +kernel
theorem dX3_keep_17 : decode cX3_keep 17 = .ok (.putfield 37, 3) := by decide +kernel
theorem dX3_keep_20 : decode cX3_keep 20 = .ok (.aload_n 0, 1) := by decide +kernel
theorem dX3_keep_21 : decode cX3_keep 21 = .ok (.getfield 37, 3) := by decide +kernel
theorem dX3_keep_24 : decode cX3_keep 24 = .ok (.iconst 1, 1) := by decide +kernel
theorem dX3_keep_25 : decode cX3_keep 25 = .ok (.isub, 1) := by decide +kernel
theorem dX3_keep_26 : decode cX3_keep 26 = .ok (.ireturn, 1) := by decide +kernel
set_option maxRecDepth 20000 in
theorem ggX3_store_X3_fail : GoodIn wsX3_store wsX3_fail := goodIn_r _ [14, 1, 20, 21, 22, 23, 24, 25, 26, 27, 28, 29, 30, 31] (by decide +kernel) (by decide +kernel)
set_option maxRecDepth 20000 in
theorem gX3_store_X3_fail : GoodIn wsX3_store (wsV RX3 47 RX3 yX3_fail wsX3_fail) := goodIn_app (goodIn_of _ (by decide +kernel)) ggX3_store_X3_fail
set_option maxRecDepth 20000 in
theorem ggX3_store_X3_keep : GoodIn wsX3_store wsX3_keep := goodIn_r _ [18, 19, 2, 20, 21, 22, 23, 24, 25, 26, 27, 28, 29, 30, 31] (by decide +kernel) (by decide +kernel)
set_option maxRecDepth 20000 in
theorem gX3_store_X3_keep : GoodIn wsX3_store (wsV RX3 62 RX3 yX3_keep wsX3_keep) := goodIn_app (goodIn_of _ (by decide +kernel)) ggX3_store_X3_keep
theorem dX3_store_0 : decode cX3_store 0 = .ok (.aload_n 0, 1) := by decide +kernel
theorem dX3_store_1 : decode cX3_store 1 = .ok (.iconst 0, 1) := by decide +kernel
theorem dX3_store_2 : decode cX3_store 2 = .ok (.putfield 33, 3) := by decide +kernel
theorem dX3_store_5 : decode cX3_store 5 = .ok (.aload_n 0, 1) := by decide +kernel
theorem dX3_store_6 : decode cX3_store 6 = .ok (.getfield 37, 3) := by decide +kernel
theorem dX3_store_9 : decode cX3_store 9 = .ok (.bipush 12, 2) := by decide +kernel
theorem dX3_store_11 : decode cX3_store 11 = .ok (.if_icmp .ne 9, 3) := by decide +kernel
theorem dX3_store_14 : decode cX3_store 14 = .ok (.aload_n 0, 1) := by decide +kernel
theorem dX3_store_15 : decode cX3_store 15 = .ok (.iconst 1, 1) := by decide +kernel
theorem dX3_store_16 : decode cX3_store 16 = .ok (.invokevirtual 47, 3) := by decide +kernel
theorem dX3_store_19 : decode cX3_store 19 = .ok (.ireturn, 1) := by decide +kernel
theorem dX3_store_20 : decode cX3_store 20 = .ok (.aload_n 0, 1) := by decide +kernel
theorem dX3_store_21 : decode cX3_store 21 = .ok (.getfield 51, 3) := by decide +kernel
theorem dX3_store_24 : decode cX3_store 24 = .ok (.newarray .int, 2) := by decide +kernel
theorem dX3_store_26 : decode cX3_store 26 = .ok (.astore_n 1, 1) := by decide +kernel
theorem dX3_store_27 : decode cX3_store 27 = .ok (.aload_n 0, 1) := by decide +kernel
theorem dX3_store_28 : decode cX3_store 28 = .ok (.getfield 9, 3) := by decide +kernel
theorem dX3_store_31 : decode cX3_store 31 = .ok (.iconst 0, 1) := by decide +kernel
theorem dX3_store_32 : decode cX3_store 32 = .ok (.aload_n 1, 1) := by decide +kernel
theorem dX3_store_33 : decode cX3_store 33 = .ok (.iconst 0, 1) := by decide +kernel
theorem dX3_store_34 : decode cX3_store 34 = .ok (.aload_n 0, 1) := by decide +kernel
theorem dX3_store_35 : decode cX3_store 35 = .ok (.getfield 51, 3) := by decide +kernel
theorem dX3_store_38 : decode cX3_store 38 = .ok (.invokestatic 56, 3) := by decide +kernel
theorem dX3_store_41 : decode cX3_store 41 = .ok (.aload_n 0, 1) := by decide +kernel
theorem dX3_store_42 : decode cX3_store 42 = .ok (.iconst 0, 1) := by decide +kernel
theorem dX3_store_43 : decode cX3_store 43 = .ok (.putfield 51, 3) := by decide +kernel
theorem dX3_store_46 : decode cX3_store 46 = .ok (.aload_n 0, 1) := by decide +kernel
theorem dX3_store_47 : decode cX3_store 47 = .ok (.aload_n 1, 1) := by decide +kernel
theorem dX3_store_48 : decode cX3_store 48 = .ok (.invokevirtual 62, 3) := by decide +kernel
theorem dX3_store_51 : decode cX3_store 51 = .ok (.ireturn, 1) := by decide +kernel
theorem dX3_versions_0 : decode cX3_versions 0 = .ok (.aload_n 0, 1) := by decide +kernel
theorem dX3_versions_1 : decode cX3_versions 1 = .ok (.iconst 0, 1) := by decide +kernel
theorem dX3_versions_2 : decode cX3_versions 2 = .ok (.putfield 33, 3) := by decide +kernel
theorem dX3_versions_5 : decode cX3_versions 5 = .ok (.aload_n 0, 1) := by decide +kernel
theorem dX3_versions_6 : decode cX3_versions 6 = .ok (.getfield 37, 3) := by decide +kernel
theorem dX3_versions_9 : decode cX3_versions 9 = .ok (.ireturn, 1) := by decide +kernel
set_option maxRecDepth 20000 in
theorem ggX3_length_X3_isVersion : GoodIn wsX3_length wsX3_isVersion := goodIn_r _ [7, 8, 9, 10, 6, 11, 16, 17, 18, 19, 20, 21, 22, 23, 24, 25, 26, 27] (by decide +kernel) (by decide +kernel)
set_option maxRecDepth 20000 in
theorem gX3_length_X3_isVersion : GoodIn wsX3_length (wsV RX3 66 RX3 yX3_isVersion wsX3_isVersion) := goodIn_app (goodIn_of _ (by decide +kernel)) ggX3_length_X3_isVersion
set_option maxRecDepth 20000 in
theorem ggX3_length_X3_fail : GoodIn wsX3_length wsX3_fail := goodIn_r _ [15, 1, 16, 17, 18, 19, 20, 21, 22, 23, 24, 25, 26, 27] (by decide +kernel) (by decide +kernel)
set_option maxRecDepth 20000 in
theorem gX3_length_X3_fail : GoodIn wsX3_length (wsV RX3 47 RX3 yX3_fail wsX3_fail) := goodIn_app (goodIn_of _ (by decide +kernel)) ggX3_length_X3_fail
theorem dX3_length_0 : decode cX3_length 0 = .ok (.aload_n 0, 1) := by decide +kernel
theorem dX3_length_1 : decode cX3_length 1 = .ok (.iconst 0, 1) := by decide +kernel
theorem dX3_length_2 : decode cX3_length 2 = .ok (.putfield 33, 3) := by decide +kernel
theorem dX3_length_5 : decode cX3_length 5 = .ok (.aload_n 0, 1) := by decide +kernel
theorem dX3_length_6 : decode cX3_length 6 = .ok (.iload_n 1, 1) := by decide +kernel
theorem dX3_length_7 : decode cX3_length 7 = .ok (.invokevirtual 66, 3) := by decide +kernel
theorem dX3_length_10 : decode cX3_length 10 = .ok (.ifCond .eq 13, 3) := by decide +kernel
theorem dX3_length_13 : decode cX3_length 13 = .ok (.aload_n 0, 1) := by decide +kernel
theorem dX3_length_14 : decode cX3_length 14 = .ok (.getfield 14, 3) := by decide +kernel
theorem dX3_length_17 : decode cX3_length 17 = .ok (.iload_n 1, 1) := by decide +kernel
theorem dX3_length_18 : decode cX3_length 18 = .ok (.aaload, 1) := by decide +kernel
theorem dX3_length_19 : decode cX3_length 19 = .ok (.arraylength, 1) := by decide +kernel
theorem dX3_length_20 : decode cX3_length 20 = .ok (.goto 8, 3) := by decide +kernel
theorem dX3_length_23 : decode cX3_length 23 = .ok (.aload_n 0, 1) := by decide +kernel
theorem dX3_length_24 : decode cX3_length 24 = .ok (.iconst 1, 1) := by decide +kernel
theorem dX3_length_25 : decode cX3_length 25 = .ok (.invokevirtual 47, 3) := by decide +kernel
theorem dX3_length_28 : decode cX3_length 28 = .ok (.ireturn, 1) := by decide +kernel
set_option maxRecDepth 20000 in
theorem ggX3_byteAt_X3_isVersion : GoodIn wsX3_byteAt wsX3_isVersion := goodIn_r _ [7, 8, 9, 10, 6, 11, 16, 17, 18, 19, 20, 21, 22, 23, 24, 25, 26, 27] (by decide +kernel) (by decide +kernel)
set_option maxRecDepth 20000 in
theorem gX3_byteAt_X3_isVersion : GoodIn wsX3_byteAt (wsV RX3 66 RX3 yX3_isVersion wsX3_isVersion) := goodIn_app (goodIn_of _ (by decide +kernel)) ggX3_byteAt_X3_isVersion
set_option maxRecDepth 20000 in
theorem ggX3_byteAt_X3_isIn : GoodIn wsX3_byteAt wsX3_isIn := goodIn_r _ [11] (by decide +kernel) (by decide +kernel)
set_option maxRecDepth 20000 in
theorem gX3_byteAt_X3_isIn : GoodIn wsX3_byteAt (va_wsS RX3 40 yX3_isIn wsX3_isIn) := goodIn_app (goodIn_of _ (by decide +kernel)) ggX3_byteAt_X3_isIn
set_option maxRecDepth 20000 in
theorem ggX3_byteAt_X3_fail : GoodIn wsX3_byteAt wsX3_fail := goodIn_r _ [15, 1, 16, 17, 18, 19, 20, 21, 22, 23, 24, 25, 26, 27] (by decide +kernel) (by decide +kernel)
set_option maxRecDepth 20000 in
theorem gX3_byteAt_X3_fail : GoodIn wsX3_byteAt (wsV RX3 47 RX3 yX3_fail wsX3_fail) := goodIn_app (goodIn_of _ (by decide +kernel)) ggX3_byteAt_X3_fail
theorem dX3_byteAt_0 : decode cX3_byteAt 0 = .ok (.aload_n 0, 1) := by decide +kernel
theorem dX3_byteAt_1 : decode cX3_byteAt 1 = .ok (.iconst 0, 1) := by decide +kernel
theorem dX3_byteAt_2 : decode cX3_byteAt 2 = .ok (.putfield 33, 3) := by decide +kernel
theorem dX3_byteAt_5 : decode cX3_byteAt 5 = .ok (.aload_n 0, 1) := by decide +kernel
theorem dX3_byteAt_6 : decode cX3_byteAt 6 = .ok (.iload_n 1, 1) := by decide +kernel
theorem dX3_byteAt_7 : decode cX3_byteAt 7 = .ok (.invokevirtual 66, 3) := by decide +kernel
theorem dX3_byteAt_10 : decode cX3_byteAt 10 = .ok (.ifCond .eq 31, 3) := by decide +kernel
theorem dX3_byteAt_13 : decode cX3_byteAt 13 = .ok (.iload_n 2, 1) := by decide +kernel
theorem dX3_byteAt_14 : decode cX3_byteAt 14 = .ok (.iconst 0, 1) := by decide +kernel
theorem dX3_byteAt_15 : decode cX3_byteAt 15 = .ok (.aload_n 0, 1) := by decide +kernel
theorem dX3_byteAt_16 : decode cX3_byteAt 16 = .ok (.getfield 14, 3) := by decide +kernel
theorem dX3_byteAt_19 : decode cX3_byteAt 19 = .ok (.iload_n 1, 1) := by decide +kernel
theorem dX3_byteAt_20 : decode cX3_byteAt 20 = .ok (.aaload, 1) := by decide +kernel
theorem dX3_byteAt_21 : decode cX3_byteAt 21 = .ok (.arraylength, 1) := by decide +kernel
theorem dX3_byteAt_22 : decode cX3_byteAt 22 = .ok (.iconst 1, 1) := by decide +kernel
theorem dX3_byteAt_23 : decode cX3_byteAt 23 = .ok (.isub, 1) := by decide +kernel
theorem dX3_byteAt_24 : decode cX3_byteAt 24 = .ok (.invokestatic 40, 3) := by decide +kernel
theorem dX3_byteAt_27 : decode cX3_byteAt 27 = .ok (.ifCond .eq 14, 3) := by decide +kernel
theorem dX3_byteAt_30 : decode cX3_byteAt 30 = .ok (.aload_n 0, 1) := by decide +kernel
theorem dX3_byteAt_31 : decode cX3_byteAt 31 = .ok (.getfield 14, 3) := by decide +kernel
theorem dX3_byteAt_34 : decode cX3_byteAt 34 = .ok (.iload_n 1, 1) := by decide +kernel
theorem dX3_byteAt_35 : decode cX3_byteAt 35 = .ok (.aaload, 1) := by decide +kernel
theorem dX3_byteAt_36 : decode cX3_byteAt 36 = .ok (.iload_n 2, 1) := by decide +kernel
theorem dX3_byteAt_37 : decode cX3_byteAt 37 = .ok (.iaload, 1) := by decide +kernel
theorem dX3_byteAt_38 : decode cX3_byteAt 38 = .ok (.goto 8, 3) := by decide +kernel
theorem dX3_byteAt_41 : decode cX3_byteAt 41 = .ok (.aload_n 0, 1) := by decide +kernel
theorem dX3_byteAt_42 : decode cX3_byteAt 42 = .ok (.iconst 1, 1) := by decide +kernel
theorem dX3_byteAt_43 : decode cX3_byteAt 43 = .ok (.invokevirtual 47, 3) := by decide +kernel
theorem dX3_byteAt_46 : decode cX3_byteAt 46 = .ok (.ireturn, 1) := by decide +kernel
set_option maxRecDepth 20000 in
theorem ggX3_areSame_X3_isVersion : GoodIn wsX3_areSame wsX3_isVersion := goodIn_r _ [7, 8, 9, 10, 6, 11, 15, 16, 17, 18, 19, 20, 21, 22, 23, 24, 25, 26] (by decide +kernel) (by decide +kernel)
set_option maxRecDepth 20000 in
theorem gX3_areSame_X3_isVersion : GoodIn wsX3_areSame (wsV RX3 66 RX3 yX3_isVersion wsX3_isVersion) := goodIn_app (goodIn_of _ (by decide +kernel)) ggX3_areSame_X3_isVersion
set_option maxRecDepth 20000 in
theorem ggX3_areSame_X3_are : GoodIn wsX3_areSame wsX3_are := goodIn_r _ [14] (by decide +kernel) (by decide +kernel)
set_option maxRecDepth 20000 in
theorem gX3_areSame_X3_are : GoodIn wsX3_areSame (va_wsS RX3 70 yX3_are wsX3_are) := goodIn_app (goodIn_of _ (by decide +kernel)) ggX3_areSame_X3_are
theorem dX3_areSame_0 : decode cX3_areSame 0 = .ok (.aload_n 0, 1) := by decide +kernel
theorem dX3_areSame_1 : decode cX3_areSame 1 = .ok (.aload_n 0, 1) := by decide +kernel
theorem dX3_areSame_2 : decode cX3_areSame 2 = .ok (.iload_n 1, 1) := by decide +kernel
theorem dX3_areSame_3 : decode cX3_areSame 3 = .ok (.invokevirtual 66, 3) := by decide +kernel
theorem dX3_areSame_6 : decode cX3_areSame 6 = .ok (.ifCond .eq 15, 3) := by decide +kernel
theorem dX3_areSame_9 : decode cX3_areSame 9 = .ok (.aload_n 0, 1) := by decide +kernel
theorem dX3_areSame_10 : decode cX3_areSame 10 = .ok (.iload_n 2, 1) := by decide +kernel
theorem dX3_areSame_11 : decode cX3_areSame 11 = .ok (.invokevirtual 66, 3) := by decide +kernel
theorem dX3_areSame_14 : decode cX3_areSame 14 = .ok (.ifCond .eq 7, 3) := by decide +kernel
theorem dX3_areSame_17 : decode cX3_areSame 17 = .ok (.iconst 0, 1) := by decide +kernel
theorem dX3_areSame_18 : decode cX3_areSame 18 = .ok (.goto 4, 3) := by decide +kernel
theorem dX3_areSame_21 : decode cX3_areSame 21 = .ok (.iconst 1, 1) := by decide +kernel
theorem dX3_areSame_22 : decode cX3_areSame 22 = .ok (.putfield 33, 3) := by decide +kernel
theorem dX3_areSame_25 : decode cX3_areSame 25 = .ok (.aload_n 0, 1) := by decide +kernel
theorem dX3_areSame_26 : decode cX3_areSame 26 = .ok (.getfield 33, 3) := by decide +kernel
theorem dX3_areSame_29 : decode cX3_areSame 29 = .ok (.ifCond .ne 25, 3) := by decide +kernel
theorem dX3_areSame_32 : decode cX3_areSame 32 = .ok (.aload_n 0, 1) := by decide +kernel
theorem dX3_areSame_33 : decode cX3_areSame 33 = .ok (.getfield 14, 3) := by decide +kernel
theorem dX3_areSame_36 : decode cX3_areSame 36 = .ok (.iload_n 1, 1) := by decide +kernel
theorem dX3_areSame_37 : decode cX3_areSame 37 = .ok (.aaload, 1) := by decide +kernel
theorem dX3_areSame_38 : decode cX3_areSame 38 = .ok (.aload_n 0, 1) := by decide +kernel
theorem dX3_areSame_39 : decode cX3_areSame 39 = .ok (.getfield 14, 3) := by decide +kernel
theorem dX3_areSame_42 : decode cX3_areSame 42 = .ok (.iload_n 2, 1) := by decide +kernel
theorem dX3_areSame_43 : decode cX3_areSame 43 = .ok (.aaload, 1) := by decide +kernel
theorem dX3_areSame_44 : decode cX3_areSame 44 = .ok (.invokestatic 70, 3) := by decide +kernel
theorem dX3_areSame_47 : decode cX3_areSame 47 = .ok (.ifCond .eq 7, 3) := by decide +kernel
theorem dX3_areSame_50 : decode cX3_areSame 50 = .ok (.iconst 1, 1) := by decide +kernel
theorem dX3_areSame_51 : decode cX3_areSame 51 = .ok (.goto 4, 3) := by decide +kernel
theorem dX3_areSame_54 : decode cX3_areSame 54 = .ok (.iconst 0, 1) := by decide +kernel
theorem dX3_areSame_55 : decode cX3_areSame 55 = .ok (.ireturn, 1) := by decide +kernel
theorem dX3_sumOf_0 : decode cX3_sumOf 0 = .ok (.iconst 0, 1) := by decide +kernel
theorem dX3_sumOf_1 : decode cX3_sumOf 1 = .ok (.istore_n 3, 1) := by decide +kernel
theorem dX3_sumOf_2 : decode cX3_sumOf 2 = .ok (.iconst 0, 1) := by decide +kernel
theorem dX3_sumOf_3 : decode cX3_sumOf 3 = .ok (.istore 4, 2) := by decide +kernel
theorem dX3_sumOf_5 : decode cX3_sumOf 5 = .ok (.iload_n 1, 1) := by decide +kernel
theorem dX3_sumOf_6 : decode cX3_sumOf 6 = .ok (.istore 5, 2) := by decide +kernel
theorem dX3_sumOf_8 : decode cX3_sumOf 8 = .ok (.iload 5, 2) := by decide +kernel
theorem dX3_sumOf_10 : decode cX3_sumOf 10 = .ok (.iload_n 1, 1) := by decide +kernel
theorem dX3_sumOf_11 : decode cX3_sumOf 11 = .ok (.iload_n 2, 1) := by decide +kernel
theorem dX3_sumOf_12 : decode cX3_sumOf 12 = .ok (.iadd, 1) := by decide +kernel
theorem dX3_sumOf_13 : decode cX3_sumOf 13 = .ok (.if_icmp .ge 22, 3) := by decide +kernel
theorem dX3_sumOf_16 : decode cX3_sumOf 16 = .ok (.iload_n 3, 1) := by decide +kernel
theorem dX3_sumOf_17 : decode cX3_sumOf 17 = .ok (.aload_n 0, 1) := by decide +kernel
theorem dX3_sumOf_18 : decode cX3_sumOf 18 = .ok (.iload 5, 2) := by decide +kernel
theorem dX3_sumOf_20 : decode cX3_sumOf 20 = .ok (.iaload, 1) := by decide +kernel
theorem dX3_sumOf_21 : decode cX3_sumOf 21 = .ok (.iadd, 1) := by decide +kernel
theorem dX3_sumOf_22 : decode cX3_sumOf 22 = .ok (.istore_n 3, 1) := by decide +kernel
theorem dX3_sumOf_23 : decode cX3_sumOf 23 = .ok (.iload 4, 2) := by decide +kernel
theorem dX3_sumOf_25 : decode cX3_sumOf 25 = .ok (.iload_n 3, 1) := by decide +kernel
theorem dX3_sumOf_26 : decode cX3_sumOf 26 = .ok (.iadd, 1) := by decide +kernel
theorem dX3_sumOf_27 : decode cX3_sumOf 27 = .ok (.istore 4, 2) := by decide +kernel
theorem dX3_sumOf_29 : decode cX3_sumOf 29 = .ok (.iinc 5 1, 3) := by decide +kernel
theorem dX3_sumOf_32 : decode cX3_sumOf 32 = .ok (.goto (-24), 3) := by decide +kernel
theorem dX3_sumOf_35 : decode cX3_sumOf 35 = .ok (.iload_n 3, 1) := by decide +kernel
theorem dX3_sumOf_36 : decode cX3_sumOf 36 = .ok (.sipush 255, 3) := by decide +kernel
theorem dX3_sumOf_39 : decode cX3_sumOf 39 = .ok (.iand, 1) := by decide +kernel
theorem dX3_sumOf_40 : decode cX3_sumOf 40 = .ok (.sipush 256, 3) := by decide +kernel
theorem dX3_sumOf_43 : decode cX3_sumOf 43 = .ok (.iload 4, 2) := by decide +kernel
theorem dX3_sumOf_45 : decode cX3_sumOf 45 = .ok (.sipush 255, 3) := by decide +kernel
theorem dX3_sumOf_48 : decode cX3_sumOf 48 = .ok (.iand, 1) := by decide +kernel
theorem dX3_sumOf_49 : decode cX3_sumOf 49 = .ok (.imul, 1) := by decide +kernel
theorem dX3_sumOf_50 : decode cX3_sumOf 50 = .ok (.iadd, 1) := by decide +kernel
theorem dX3_sumOf_51 : decode cX3_sumOf 51 = .ok (.ireturn, 1) := by decide +kernel
set_option maxRecDepth 20000 in
theorem ggX3_weakSum_X3_isVersion : GoodIn wsX3_weakSum wsX3_isVersion := goodIn_r _ [7, 8, 9, 10, 6, 11, 19, 20, 21, 22, 23, 24, 25, 26, 27, 28, 29, 30] (by decide +kernel) (by decide +kernel)
set_option maxRecDepth 20000 in
theorem gX3_weakSum_X3_isVersion : GoodIn wsX3_weakSum (wsV RX3 66 RX3 yX3_isVersion wsX3_isVersion) := goodIn_app (goodIn_of _ (by decide +kernel)) ggX3_weakSum_X3_isVersion
set_option maxRecDepth 20000 in
theorem ggX3_weakSum_X3_fail : GoodIn wsX3_weakSum wsX3_fail := goodIn_r _ [15, 1, 19, 20, 21, 22, 23, 24, 25, 26, 27, 28, 29, 30] (by decide +kernel) (by decide +kernel)
set_option maxRecDepth 20000 in
theorem gX3_weakSum_X3_fail : GoodIn wsX3_weakSum (wsV RX3 47 RX3 yX3_fail wsX3_fail) := goodIn_app (goodIn_of _ (by decide +kernel)) ggX3_weakSum_X3_fail
set_option maxRecDepth 20000 in
theorem ggX3_weakSum_X3_isIn : GoodIn wsX3_weakSum wsX3_isIn := goodIn_r _ [11] (by decide +kernel) (by decide +kernel)
set_option maxRecDepth 20000 in
theorem gX3_weakSum_X3_isIn : GoodIn wsX3_weakSum (va_wsS RX3 40 yX3_isIn wsX3_isIn) := goodIn_app (goodIn_of _ (by decide +kernel)) ggX3_weakSum_X3_isIn
set_option maxRecDepth 20000 in
theorem ggX3_weakSum_X3_sumOf : GoodIn wsX3_weakSum wsX3_sumOf := goodIn_r _ [18] (by decide +kernel) (by decide +kernel)
set_option maxRecDepth 20000 in
theorem gX3_weakSum_X3_sumOf : GoodIn wsX3_weakSum (va_wsS RX3 74 yX3_sumOf wsX3_sumOf) := goodIn_app (goodIn_of _ (by decide +kernel)) ggX3_weakSum_X3_sumOf
theorem dX3_weakSum_0 : decode cX3_weakSum 0 = .ok (.aload_n 0, 1) := by decide +kernel
theorem dX3_weakSum_1 : decode cX3_weakSum 1 = .ok (.iconst 0, 1) := by decide +kernel
theorem dX3_weakSum_2 : decode cX3_weakSum 2 = .ok (.putfield 33, 3) := by decide +kernel
theorem dX3_weakSum_5 : decode cX3_weakSum 5 = .ok (.aload_n 0, 1) := by decide +kernel
theorem dX3_weakSum_6 : decode cX3_weakSum 6 = .ok (.iload_n 1, 1) := by decide +kernel
theorem dX3_weakSum_7 : decode cX3_weakSum 7 = .ok (.invokevirtual 66, 3) := by decide +kernel
theorem dX3_weakSum_10 : decode cX3_weakSum 10 = .ok (.ifCond .ne 9, 3) := by decide +kernel
theorem dX3_weakSum_13 : decode cX3_weakSum 13 = .ok (.aload_n 0, 1) := by decide +kernel
theorem dX3_weakSum_14 : decode cX3_weakSum 14 = .ok (.iconst 1, 1) := by decide +kernel
theorem dX3_weakSum_15 : decode cX3_weakSum 15 = .ok (.invokevirtual 47, 3) := by decide +kernel
theorem dX3_weakSum_18 : decode cX3_weakSum 18 = .ok (.ireturn, 1) := by decide +kernel
theorem dX3_weakSum_19 : decode cX3_weakSum 19 = .ok (.iload_n 3, 1) := by decide +kernel
theorem dX3_weakSum_20 : decode cX3_weakSum 20 = .ok (.iconst 1, 1) := by decide +kernel
theorem dX3_weakSum_21 : decode cX3_weakSum 21 = .ok (.bipush 32, 2) := by decide +kernel
theorem dX3_weakSum_23 : decode cX3_weakSum 23 = .ok (.invokestatic 40, 3) := by decide +kernel
theorem dX3_weakSum_26 : decode cX3_weakSum 26 = .ok (.ifCond .eq 20, 3) := by decide +kernel
theorem dX3_weakSum_29 : decode cX3_weakSum 29 = .ok (.iload_n 2, 1) := by decide +kernel
theorem dX3_weakSum_30 : decode cX3_weakSum 30 = .ok (.ifCond .lt 16, 3) := by decide +kernel
theorem dX3_weakSum_33 : decode cX3_weakSum 33 = .ok (.iload_n 2, 1) := by decide +kernel
theorem dX3_weakSum_34 : decode cX3_weakSum 34 = .ok (.aload_n 0, 1) := by decide +kernel
theorem dX3_weakSum_35 : decode cX3_weakSum 35 = .ok (.getfield 14, 3) := by decide +kernel
theorem dX3_weakSum_38 : decode cX3_weakSum 38 = .ok (.iload_n 1, 1) := by decide +kernel
theorem dX3_weakSum_39 : decode cX3_weakSum 39 = .ok (.aaload, 1) := by decide +kernel
theorem dX3_weakSum_40 : decode cX3_weakSum 40 = .ok (.arraylength, 1) := by decide +kernel
theorem dX3_weakSum_41 : decode cX3_weakSum 41 = .ok (.iload_n 3, 1) := by decide +kernel
theorem dX3_weakSum_42 : decode cX3_weakSum 42 = .ok (.isub, 1) := by decide +kernel
theorem dX3_weakSum_43 : decode cX3_weakSum 43 = .ok (.if_icmp .le 9, 3) := by decide +kernel
theorem dX3_weakSum_46 : decode cX3_weakSum 46 = .ok (.aload_n 0, 1) := by decide +kernel
theorem dX3_weakSum_47 : decode cX3_weakSum 47 = .ok (.iconst 2, 1) := by decide +kernel
theorem dX3_weakSum_48 : decode cX3_weakSum 48 = .ok (.invokevirtual 47, 3) := by decide +kernel
theorem dX3_weakSum_51 : decode cX3_weakSum 51 = .ok (.ireturn, 1) := by decide +kernel
theorem dX3_weakSum_52 : decode cX3_weakSum 52 = .ok (.aload_n 0, 1) := by decide +kernel
theorem dX3_weakSum_53 : decode cX3_weakSum 53 = .ok (.getfield 14, 3) := by decide +kernel
theorem dX3_weakSum_56 : decode cX3_weakSum 56 = .ok (.iload_n 1, 1) := by decide +kernel
theorem dX3_weakSum_57 : decode cX3_weakSum 57 = .ok (.aaload, 1) := by decide +kernel
theorem dX3_weakSum_58 : decode cX3_weakSum 58 = .ok (.iload_n 2, 1) := by decide +kernel
theorem dX3_weakSum_59 : decode cX3_weakSum 59 = .ok (.iload_n 3, 1) := by decide +kernel
theorem dX3_weakSum_60 : decode cX3_weakSum 60 = .ok (.invokestatic 74, 3) := by decide +kernel
theorem dX3_weakSum_63 : decode cX3_weakSum 63 = .ok (.ireturn, 1) := by decide +kernel
theorem dX3_isLike_0 : decode cX3_isLike 0 = .ok (.iconst 1, 1) := by decide +kernel
theorem dX3_isLike_1 : decode cX3_isLike 1 = .ok (.istore 5, 2) := by decide +kernel
theorem dX3_isLike_3 : decode cX3_isLike 3 = .ok (.iconst 0, 1) := by decide +kernel
theorem dX3_isLike_4 : decode cX3_isLike 4 = .ok (.istore 6, 2) := by decide +kernel
theorem dX3_isLike_6 : decode cX3_isLike 6 = .ok (.iload 6, 2) := by decide +kernel
theorem dX3_isLike_8 : decode cX3_isLike 8 = .ok (.iload 4, 2) := by decide +kernel
theorem dX3_isLike_10 : decode cX3_isLike 10 = .ok (.if_icmp .ge 36, 3) := by decide +kernel
theorem dX3_isLike_13 : decode cX3_isLike 13 = .ok (.iload 5, 2) := by decide +kernel
theorem dX3_isLike_15 : decode cX3_isLike 15 = .ok (.ifCond .eq 31, 3) := by decide +kernel
theorem dX3_isLike_18 : decode cX3_isLike 18 = .ok (.aload_n 0, 1) := by decide +kernel
theorem dX3_isLike_19 : decode cX3_isLike 19 = .ok (.iload_n 1, 1) := by decide +kernel
theorem dX3_isLike_20 : decode cX3_isLike 20 = .ok (.iload 6, 2) := by decide +kernel
theorem dX3_isLike_22 : decode cX3_isLike 22 = .ok (.iadd, 1) := by decide +kernel
theorem dX3_isLike_23 : decode cX3_isLike 23 = .ok (.iaload, 1) := by decide +kernel
theorem dX3_isLike_24 : decode cX3_isLike 24 = .ok (.aload_n 2, 1) := by decide +kernel
theorem dX3_isLike_25 : decode cX3_isLike 25 = .ok (.iload_n 3, 1) := by decide +kernel
theorem dX3_isLike_26 : decode cX3_isLike 26 = .ok (.iload 6, 2) := by decide +kernel
theorem dX3_isLike_28 : decode cX3_isLike 28 = .ok (.iadd, 1) := by decide +kernel
theorem dX3_isLike_29 : decode cX3_isLike 29 = .ok (.iaload, 1) := by decide +kernel
theorem dX3_isLike_30 : decode cX3_isLike 30 = .ok (.if_icmp .ne 7, 3) := by decide +kernel
theorem dX3_isLike_33 : decode cX3_isLike 33 = .ok (.iconst 1, 1) := by decide +kernel
theorem dX3_isLike_34 : decode cX3_isLike 34 = .ok (.goto 4, 3) := by decide +kernel
theorem dX3_isLike_37 : decode cX3_isLike 37 = .ok (.iconst 0, 1) := by decide +kernel
theorem dX3_isLike_38 : decode cX3_isLike 38 = .ok (.istore 5, 2) := by decide +kernel
theorem dX3_isLike_40 : decode cX3_isLike 40 = .ok (.iinc 6 1, 3) := by decide +kernel
theorem dX3_isLike_43 : decode cX3_isLike 43 = .ok (.goto (-37), 3) := by decide +kernel
theorem dX3_isLike_46 : decode cX3_isLike 46 = .ok (.iload 5, 2) := by decide +kernel
theorem dX3_isLike_48 : decode cX3_isLike 48 = .ok (.ireturn, 1) := by decide +kernel
set_option maxRecDepth 20000 in
theorem ggX3_collisions_X3_isVersion : GoodIn wsX3_collisions wsX3_isVersion := goodIn_r _ [8, 9, 10, 11, 7, 12, 26, 27, 28, 29, 30, 31, 32, 33, 34, 35, 36, 37] (by decide +kernel) (by decide +kernel)
set_option maxRecDepth 20000 in
theorem gX3_collisions_X3_isVersion : GoodIn wsX3_collisions (wsV RX3 66 RX3 yX3_isVersion wsX3_isVersion) := goodIn_app (goodIn_of _ (by decide +kernel)) ggX3_collisions_X3_isVersion
set_option maxRecDepth 20000 in
theorem ggX3_collisions_X3_fail : GoodIn wsX3_collisions wsX3_fail := goodIn_r _ [16, 1, 26, 27, 28, 29, 30, 31, 32, 33, 34, 35, 36, 37] (by decide +kernel) (by decide +kernel)
set_option maxRecDepth 20000 in
theorem gX3_collisions_X3_fail : GoodIn wsX3_collisions (wsV RX3 47 RX3 yX3_fail wsX3_fail) := goodIn_app (goodIn_of _ (by decide +kernel)) ggX3_collisions_X3_fail
set_option maxRecDepth 20000 in
theorem ggX3_collisions_X3_isSize : GoodIn wsX3_collisions wsX3_isSize := goodIn_r _ [19, 10, 11, 7, 12] (by decide +kernel) (by decide +kernel)
set_option maxRecDepth 20000 in
theorem gX3_collisions_X3_isSize : GoodIn wsX3_collisions (va_wsS RX3 78 yX3_isSize wsX3_isSize) := goodIn_app (goodIn_of _ (by decide +kernel)) ggX3_collisions_X3_isSize
set_option maxRecDepth 20000 in
theorem ggX3_collisions_X3_sumOf : GoodIn wsX3_collisions wsX3_sumOf := goodIn_r _ [22] (by decide +kernel) (by decide +kernel)
set_option maxRecDepth 20000 in
theorem gX3_collisions_X3_sumOf : GoodIn wsX3_collisions (va_wsS RX3 74 yX3_sumOf wsX3_sumOf) := goodIn_app (goodIn_of _ (by decide +kernel)) ggX3_collisions_X3_sumOf
set_option maxRecDepth 20000 in
theorem ggX3_collisions_X3_isLike : GoodIn wsX3_collisions wsX3_isLike := goodIn_r _ [25] (by decide +kernel) (by decide +kernel)
set_option maxRecDepth 20000 in
theorem gX3_collisions_X3_isLike : GoodIn wsX3_collisions (va_wsS RX3 81 yX3_isLike wsX3_isLike) := goodIn_app (goodIn_of _ (by decide +kernel)) ggX3_collisions_X3_isLike
theorem dX3_collisions_0 : decode cX3_collisions 0 = .ok (.aload_n 0, 1) := by decide +kernel
theorem dX3_collisions_1 : decode cX3_collisions 1 = .ok (.iconst 0, 1) := by decide +kernel
theorem dX3_collisions_2 : decode cX3_collisions 2 = .ok (.putfield 33, 3) := by decide +kernel
theorem dX3_collisions_5 : decode cX3_collisions 5 = .ok (.aload_n 0, 1) := by decide +kernel
theorem dX3_collisions_6 : decode cX3_collisions 6 = .ok (.iload_n 1, 1) := by decide +kernel
theorem dX3_collisions_7 : decode cX3_collisions 7 = .ok (.invokevirtual 66, 3) := by decide +kernel
theorem dX3_collisions_10 : decode cX3_collisions 10 = .ok (.ifCond .ne 9, 3) := by decide +kernel
theorem dX3_collisions_13 : decode cX3_collisions 13 = .ok (.aload_n 0, 1) := by decide +kernel
theorem dX3_collisions_14 : decode cX3_collisions 14 = .ok (.iconst 1, 1) := by decide +kernel
theorem dX3_collisions_15 : decode cX3_collisions 15 = .ok (.invokevirtual 47, 3) := by decide +kernel
theorem dX3_collisions_18 : decode cX3_collisions 18 = .ok (.ireturn, 1) := by decide +kernel
theorem dX3_collisions_19 : decode cX3_collisions 19 = .ok (.iload_n 2, 1) := by decide +kernel
theorem dX3_collisions_20 : decode cX3_collisions 20 = .ok (.invokestatic 78, 3) := by decide +kernel
theorem dX3_collisions_23 : decode cX3_collisions 23 = .ok (.ifCond .ne 9, 3) := by decide +kernel
theorem dX3_collisions_26 : decode cX3_collisions 26 = .ok (.aload_n 0, 1) := by decide +kernel
theorem dX3_collisions_27 : decode cX3_collisions 27 = .ok (.iconst 2, 1) := by decide +kernel
theorem dX3_collisions_28 : decode cX3_collisions 28 = .ok (.invokevirtual 47, 3) := by decide +kernel
theorem dX3_collisions_31 : decode cX3_collisions 31 = .ok (.ireturn, 1) := by decide +kernel
theorem dX3_collisions_32 : decode cX3_collisions 32 = .ok (.aload_n 0, 1) := by decide +kernel
theorem dX3_collisions_33 : decode cX3_collisions 33 = .ok (.getfield 14, 3) := by decide +kernel
theorem dX3_collisions_36 : decode cX3_collisions 36 = .ok (.iload_n 1, 1) := by decide +kernel
theorem dX3_collisions_37 : decode cX3_collisions 37 = .ok (.aaload, 1) := by decide +kernel
theorem dX3_collisions_38 : decode cX3_collisions 38 = .ok (.astore_n 3, 1) := by decide +kernel
theorem dX3_collisions_39 : decode cX3_collisions 39 = .ok (.aload_n 3, 1) := by decide +kernel
theorem dX3_collisions_40 : decode cX3_collisions 40 = .ok (.arraylength, 1) := by decide +kernel
theorem dX3_collisions_41 : decode cX3_collisions 41 = .ok (.iload_n 2, 1) := by decide +kernel
theorem dX3_collisions_42 : decode cX3_collisions 42 = .ok (.idiv, 1) := by decide +kernel
theorem dX3_collisions_43 : decode cX3_collisions 43 = .ok (.istore 4, 2) := by decide +kernel
theorem dX3_collisions_45 : decode cX3_collisions 45 = .ok (.iload 4, 2) := by decide +kernel
theorem dX3_collisions_47 : decode cX3_collisions 47 = .ok (.newarray .int, 2) := by decide +kernel
theorem dX3_collisions_49 : decode cX3_collisions 49 = .ok (.astore 5, 2) := by decide +kernel
theorem dX3_collisions_51 : decode cX3_collisions 51 = .ok (.iconst 0, 1) := by decide +kernel
theorem dX3_collisions_52 : decode cX3_collisions 52 = .ok (.istore 6, 2) := by decide +kernel
theorem dX3_collisions_54 : decode cX3_collisions 54 = .ok (.iconst 0, 1) := by decide +kernel
theorem dX3_collisions_55 : decode cX3_collisions 55 = .ok (.istore 7, 2) := by decide +kernel
theorem dX3_collisions_57 : decode cX3_collisions 57 = .ok (.iload 7, 2) := by decide +kernel
theorem dX3_collisions_59 : decode cX3_collisions 59 = .ok (.iload 4, 2) := by decide +kernel
theorem dX3_collisions_61 : decode cX3_collisions 61 = .ok (.if_icmp .ge 79, 3) := by decide +kernel
theorem dX3_collisions_64 : decode cX3_collisions 64 = .ok (.aload 5, 2) := by decide +kernel
theorem dX3_collisions_66 : decode cX3_collisions 66 = .ok (.iload 7, 2) := by decide +kernel
theorem dX3_collisions_68 : decode cX3_collisions 68 = .ok (.aload_n 3, 1) := by decide +kernel
theorem dX3_collisions_69 : decode cX3_collisions 69 = .ok (.iload 7, 2) := by decide +kernel
theorem dX3_collisions_71 : decode cX3_collisions 71 = .ok (.iload_n 2, 1) := by decide +kernel
theorem dX3_collisions_72 : decode cX3_collisions 72 = .ok (.imul, 1) := by decide +kernel
theorem dX3_collisions_73 : decode cX3_collisions 73 = .ok (.iload_n 2, 1) := by decide +kernel
theorem dX3_collisions_74 : decode cX3_collisions 74 = .ok (.invokestatic 74, 3) := by decide +kernel
theorem dX3_collisions_77 : decode cX3_collisions 77 = .ok (.iastore, 1) := by decide +kernel
theorem dX3_collisions_78 : decode cX3_collisions 78 = .ok (.iconst 0, 1) := by decide +kernel
theorem dX3_collisions_79 : decode cX3_collisions 79 = .ok (.istore 8, 2) := by decide +kernel
theorem dX3_collisions_81 : decode cX3_collisions 81 = .ok (.iload 8, 2) := by decide +kernel
theorem dX3_collisions_83 : decode cX3_collisions 83 = .ok (.iload 7, 2) := by decide +kernel
theorem dX3_collisions_85 : decode cX3_collisions 85 = .ok (.if_icmp .ge 49, 3) := by decide +kernel
theorem dX3_collisions_88 : decode cX3_collisions 88 = .ok (.iload 6, 2) := by decide +kernel
theorem dX3_collisions_90 : decode cX3_collisions 90 = .ok (.aload 5, 2) := by decide +kernel
theorem dX3_collisions_92 : decode cX3_collisions 92 = .ok (.iload 8, 2) := by decide +kernel
theorem dX3_collisions_94 : decode cX3_collisions 94 = .ok (.iaload, 1) := by decide +kernel
theorem dX3_collisions_95 : decode cX3_collisions 95 = .ok (.aload 5, 2) := by decide +kernel
theorem dX3_collisions_97 : decode cX3_collisions 97 = .ok (.iload 7, 2) := by decide +kernel
theorem dX3_collisions_99 : decode cX3_collisions 99 = .ok (.iaload, 1) := by decide +kernel
theorem dX3_collisions_100 : decode cX3_collisions 100 = .ok (.if_icmp .ne 24, 3) := by decide +kernel
theorem dX3_collisions_103 : decode cX3_collisions 103 = .ok (.aload_n 3, 1) := by decide +kernel
theorem dX3_collisions_104 : decode cX3_collisions 104 = .ok (.iload 8, 2) := by decide +kernel
theorem dX3_collisions_106 : decode cX3_collisions 106 = .ok (.iload_n 2, 1) := by decide +kernel
theorem dX3_collisions_107 : decode cX3_collisions 107 = .ok (.imul, 1) := by decide +kernel
theorem dX3_collisions_108 : decode cX3_collisions 108 = .ok (.aload_n 3, 1) := by decide +kernel
theorem dX3_collisions_109 : decode cX3_collisions 109 = .ok (.iload 7, 2) := by decide +kernel
theorem dX3_collisions_111 : decode cX3_collisions 111 = .ok (.iload_n 2, 1) := by decide +kernel
theorem dX3_collisions_112 : decode cX3_collisions 112 = .ok (.imul, 1) := by decide +kernel
theorem dX3_collisions_113 : decode cX3_collisions 113 = .ok (.iload_n 2, 1) := by decide +kernel
theorem dX3_collisions_114 : decode cX3_collisions 114 = .ok (.invokestatic 81, 3) := by decide +kernel
theorem dX3_collisions_117 : decode cX3_collisions 117 = .ok (.ifCond .ne 7, 3) := by decide +kernel
theorem dX3_collisions_120 : decode cX3_collisions 120 = .ok (.iconst 1, 1) := by decide +kernel
theorem dX3_collisions_121 : decode cX3_collisions 121 = .ok (.goto 4, 3) := by decide +kernel
theorem dX3_collisions_124 : decode cX3_collisions 124 = .ok (.iconst 0, 1) := by decide +kernel
theorem dX3_collisions_125 : decode cX3_collisions 125 = .ok (.iadd, 1) := by decide +kernel
theorem dX3_collisions_126 : decode cX3_collisions 126 = .ok (.istore 6, 2) := by decide +kernel
theorem dX3_collisions_128 : decode cX3_collisions 128 = .ok (.iinc 8 1, 3) := by decide +kernel
theorem dX3_collisions_131 : decode cX3_collisions 131 = .ok (.goto (-50), 3) := by decide +kernel
theorem dX3_collisions_134 : decode cX3_collisions 134 = .ok (.iinc 7 1, 3) := by decide +kernel
theorem dX3_collisions_137 : decode cX3_collisions 137 = .ok (.goto (-80), 3) := by decide +kernel
theorem dX3_collisions_140 : decode cX3_collisions 140 = .ok (.iload 6, 2) := by decide +kernel
theorem dX3_collisions_142 : decode cX3_collisions 142 = .ok (.ireturn, 1) := by decide +kernel
set_option maxRecDepth 20000 in
theorem ggX3_differentBlocks_X3_isVersion : GoodIn wsX3_differentBlocks wsX3_isVersion := goodIn_r _ [7, 8, 9, 10, 6, 11, 25, 26, 27, 28, 29, 30, 31, 32, 33, 34, 35, 36] (by decide +kernel) (by decide +kernel)
set_option maxRecDepth 20000 in
theorem gX3_differentBlocks_X3_isVersion : GoodIn wsX3_differentBlocks (wsV RX3 66 RX3 yX3_isVersion wsX3_isVersion) := goodIn_app (goodIn_of _ (by decide +kernel)) ggX3_differentBlocks_X3_isVersion
set_option maxRecDepth 20000 in
theorem ggX3_differentBlocks_X3_fail : GoodIn wsX3_differentBlocks wsX3_fail := goodIn_r _ [15, 1, 25, 26, 27, 28, 29, 30, 31, 32, 33, 34, 35, 36] (by decide +kernel) (by decide +kernel)
set_option maxRecDepth 20000 in
theorem gX3_differentBlocks_X3_fail : GoodIn wsX3_differentBlocks (wsV RX3 47 RX3 yX3_fail wsX3_fail) := goodIn_app (goodIn_of _ (by decide +kernel)) ggX3_differentBlocks_X3_fail
set_option maxRecDepth 20000 in
theorem ggX3_differentBlocks_X3_isSize : GoodIn wsX3_differentBlocks wsX3_isSize := goodIn_r _ [18, 9, 10, 6, 11] (by decide +kernel) (by decide +kernel)
set_option maxRecDepth 20000 in
theorem gX3_differentBlocks_X3_isSize : GoodIn wsX3_differentBlocks (va_wsS RX3 78 yX3_isSize wsX3_isSize) := goodIn_app (goodIn_of _ (by decide +kernel)) ggX3_differentBlocks_X3_isSize
set_option maxRecDepth 20000 in
theorem ggX3_differentBlocks_X3_blockLike : GoodIn wsX3_differentBlocks wsX3_blockLike := goodIn_r _ [21, 22, 23, 6, 24] (by decide +kernel) (by decide +kernel)
set_option maxRecDepth 20000 in
theorem gX3_differentBlocks_X3_blockLike : GoodIn wsX3_differentBlocks (va_wsS RX3 85 yX3_blockLike wsX3_blockLike) := goodIn_app (goodIn_of _ (by decide +kernel)) ggX3_differentBlocks_X3_blockLike
theorem dX3_differentBlocks_0 : decode cX3_differentBlocks 0 = .ok (.aload_n 0, 1) := by decide +kernel
theorem dX3_differentBlocks_1 : decode cX3_differentBlocks 1 = .ok (.iconst 0, 1) := by decide +kernel
theorem dX3_differentBlocks_2 : decode cX3_differentBlocks 2 = .ok (.putfield 33, 3) := by decide +kernel
theorem dX3_differentBlocks_5 : decode cX3_differentBlocks 5 = .ok (.aload_n 0, 1) := by decide +kernel
theorem dX3_differentBlocks_6 : decode cX3_differentBlocks 6 = .ok (.iload_n 1, 1) := by decide +kernel
theorem dX3_differentBlocks_7 : decode cX3_differentBlocks 7 = .ok (.invokevirtual 66, 3) := by decide +kernel
theorem dX3_differentBlocks_10 : decode cX3_differentBlocks 10 = .ok (.ifCond .ne 9, 3) := by decide +kernel
theorem dX3_differentBlocks_13 : decode cX3_differentBlocks 13 = .ok (.aload_n 0, 1) := by decide +kernel
theorem dX3_differentBlocks_14 : decode cX3_differentBlocks 14 = .ok (.iconst 1, 1) := by decide +kernel
theorem dX3_differentBlocks_15 : decode cX3_differentBlocks 15 = .ok (.invokevirtual 47, 3) := by decide +kernel
theorem dX3_differentBlocks_18 : decode cX3_differentBlocks 18 = .ok (.ireturn, 1) := by decide +kernel
theorem dX3_differentBlocks_19 : decode cX3_differentBlocks 19 = .ok (.iload_n 2, 1) := by decide +kernel
theorem dX3_differentBlocks_20 : decode cX3_differentBlocks 20 = .ok (.invokestatic 78, 3) := by decide +kernel
theorem dX3_differentBlocks_23 : decode cX3_differentBlocks 23 = .ok (.ifCond .ne 9, 3) := by decide +kernel
theorem dX3_differentBlocks_26 : decode cX3_differentBlocks 26 = .ok (.aload_n 0, 1) := by decide +kernel
theorem dX3_differentBlocks_27 : decode cX3_differentBlocks 27 = .ok (.iconst 2, 1) := by decide +kernel
theorem dX3_differentBlocks_28 : decode cX3_differentBlocks 28 = .ok (.invokevirtual 47, 3) := by decide +kernel
theorem dX3_differentBlocks_31 : decode cX3_differentBlocks 31 = .ok (.ireturn, 1) := by decide +kernel
theorem dX3_differentBlocks_32 : decode cX3_differentBlocks 32 = .ok (.aload_n 0, 1) := by decide +kernel
theorem dX3_differentBlocks_33 : decode cX3_differentBlocks 33 = .ok (.getfield 14, 3) := by decide +kernel
theorem dX3_differentBlocks_36 : decode cX3_differentBlocks 36 = .ok (.iload_n 1, 1) := by decide +kernel
theorem dX3_differentBlocks_37 : decode cX3_differentBlocks 37 = .ok (.aaload, 1) := by decide +kernel
theorem dX3_differentBlocks_38 : decode cX3_differentBlocks 38 = .ok (.astore_n 3, 1) := by decide +kernel
theorem dX3_differentBlocks_39 : decode cX3_differentBlocks 39 = .ok (.iconst 0, 1) := by decide +kernel
theorem dX3_differentBlocks_40 : decode cX3_differentBlocks 40 = .ok (.istore 4, 2) := by decide +kernel
theorem dX3_differentBlocks_42 : decode cX3_differentBlocks 42 = .ok (.iconst 0, 1) := by decide +kernel
theorem dX3_differentBlocks_43 : decode cX3_differentBlocks 43 = .ok (.istore 5, 2) := by decide +kernel
theorem dX3_differentBlocks_45 : decode cX3_differentBlocks 45 = .ok (.iload 5, 2) := by decide +kernel
theorem dX3_differentBlocks_47 : decode cX3_differentBlocks 47 = .ok (.aload_n 3, 1) := by decide +kernel
theorem dX3_differentBlocks_48 : decode cX3_differentBlocks 48 = .ok (.arraylength, 1) := by decide +kernel
theorem dX3_differentBlocks_49 : decode cX3_differentBlocks 49 = .ok (.iload_n 2, 1) := by decide +kernel
theorem dX3_differentBlocks_50 : decode cX3_differentBlocks 50 = .ok (.idiv, 1) := by decide +kernel
theorem dX3_differentBlocks_51 : decode cX3_differentBlocks 51 = .ok (.if_icmp .ge 35, 3) := by decide +kernel
theorem dX3_differentBlocks_54 : decode cX3_differentBlocks 54 = .ok (.iload 4, 2) := by decide +kernel
theorem dX3_differentBlocks_56 : decode cX3_differentBlocks 56 = .ok (.aload_n 3, 1) := by decide +kernel
theorem dX3_differentBlocks_57 : decode cX3_differentBlocks 57 = .ok (.iload_n 2, 1) := by decide +kernel
theorem dX3_differentBlocks_58 : decode cX3_differentBlocks 58 = .ok (.aload_n 3, 1) := by decide +kernel
theorem dX3_differentBlocks_59 : decode cX3_differentBlocks 59 = .ok (.iload 5, 2) := by decide +kernel
theorem dX3_differentBlocks_61 : decode cX3_differentBlocks 61 = .ok (.iload_n 2, 1) := by decide +kernel
theorem dX3_differentBlocks_62 : decode cX3_differentBlocks 62 = .ok (.imul, 1) := by decide +kernel
theorem dX3_differentBlocks_63 : decode cX3_differentBlocks 63 = .ok (.iconst 0, 1) := by decide +kernel
theorem dX3_differentBlocks_64 : decode cX3_differentBlocks 64 = .ok (.invokestatic 85, 3) := by decide +kernel
theorem dX3_differentBlocks_67 : decode cX3_differentBlocks 67 = .ok (.iload 5, 2) := by decide +kernel
theorem dX3_differentBlocks_69 : decode cX3_differentBlocks 69 = .ok (.if_icmp .ne 7, 3) := by decide +kernel
theorem dX3_differentBlocks_72 : decode cX3_differentBlocks 72 = .ok (.iconst 1, 1) := by decide +kernel
theorem dX3_differentBlocks_73 : decode cX3_differentBlocks 73 = .ok (.goto 4, 3) := by decide +kernel
theorem dX3_differentBlocks_76 : decode cX3_differentBlocks 76 = .ok (.iconst 0, 1) := by decide +kernel
theorem dX3_differentBlocks_77 : decode cX3_differentBlocks 77 = .ok (.iadd, 1) := by decide +kernel
theorem dX3_differentBlocks_78 : decode cX3_differentBlocks 78 = .ok (.istore 4, 2) := by decide +kernel
theorem dX3_differentBlocks_80 : decode cX3_differentBlocks 80 = .ok (.iinc 5 1, 3) := by decide +kernel
theorem dX3_differentBlocks_83 : decode cX3_differentBlocks 83 = .ok (.goto (-38), 3) := by decide +kernel
theorem dX3_differentBlocks_86 : decode cX3_differentBlocks 86 = .ok (.iload 4, 2) := by decide +kernel
theorem dX3_differentBlocks_88 : decode cX3_differentBlocks 88 = .ok (.ireturn, 1) := by decide +kernel
set_option maxRecDepth 20000 in
theorem ggX3_blockLike_X3_isLike : GoodIn wsX3_blockLike wsX3_isLike := goodIn_r _ [4] (by decide +kernel) (by decide +kernel)
set_option maxRecDepth 20000 in
theorem gX3_blockLike_X3_isLike : GoodIn wsX3_blockLike (va_wsS RX3 81 yX3_isLike wsX3_isLike) := goodIn_app (goodIn_of _ (by decide +kernel)) ggX3_blockLike_X3_isLike
theorem dX3_blockLike_0 : decode cX3_blockLike 0 = .ok (.iload 4, 2) := by decide +kernel
theorem dX3_blockLike_2 : decode cX3_blockLike 2 = .ok (.istore 5, 2) := by decide +kernel
theorem dX3_blockLike_4 : decode cX3_blockLike 4 = .ok (.iload 5, 2) := by decide +kernel
theorem dX3_blockLike_6 : decode cX3_blockLike 6 = .ok (.aload_n 0, 1) := by decide +kernel
theorem dX3_blockLike_7 : decode cX3_blockLike 7 = .ok (.arraylength, 1) := by decide +kernel
theorem dX3_blockLike_8 : decode cX3_blockLike 8 = .ok (.iload_n 1, 1) := by decide +kernel
theorem dX3_blockLike_9 : decode cX3_blockLike 9 = .ok (.idiv, 1) := by decide +kernel
theorem dX3_blockLike_10 : decode cX3_blockLike 10 = .ok (.if_icmp .ge 26, 3) := by decide +kernel
theorem dX3_blockLike_13 : decode cX3_blockLike 13 = .ok (.aload_n 0, 1) := by decide +kernel
theorem dX3_blockLike_14 : decode cX3_blockLike 14 = .ok (.iload 5, 2) := by decide +kernel
theorem dX3_blockLike_16 : decode cX3_blockLike 16 = .ok (.iload_n 1, 1) := by decide +kernel
theorem dX3_blockLike_17 : decode cX3_blockLike 17 = .ok (.imul, 1) := by decide +kernel
theorem dX3_blockLike_18 : decode cX3_blockLike 18 = .ok (.aload_n 2, 1) := by decide +kernel
theorem dX3_blockLike_19 : decode cX3_blockLike 19 = .ok (.iload_n 3, 1) := by decide +kernel
theorem dX3_blockLike_20 : decode cX3_blockLike 20 = .ok (.iload_n 1, 1) := by decide +kernel
theorem dX3_blockLike_21 : decode cX3_blockLike 21 = .ok (.invokestatic 81, 3) := by decide +kernel
theorem dX3_blockLike_24 : decode cX3_blockLike 24 = .ok (.ifCond .eq 6, 3) := by decide +kernel
theorem dX3_blockLike_27 : decode cX3_blockLike 27 = .ok (.iload 5, 2) := by decide +kernel
theorem dX3_blockLike_29 : decode cX3_blockLike 29 = .ok (.ireturn, 1) := by decide +kernel
theorem dX3_blockLike_30 : decode cX3_blockLike 30 = .ok (.iinc 5 1, 3) := by decide +kernel
theorem dX3_blockLike_33 : decode cX3_blockLike 33 = .ok (.goto (-29), 3) := by decide +kernel
theorem dX3_blockLike_36 : decode cX3_blockLike 36 = .ok (.iconst (-1), 1) := by decide +kernel
theorem dX3_blockLike_37 : decode cX3_blockLike 37 = .ok (.ireturn, 1) := by decide +kernel
theorem dX3_add_0 : decode cX3_add 0 = .ok (.aload_n 0, 1) := by decide +kernel
theorem dX3_add_1 : decode cX3_add 1 = .ok (.getfield 18, 3) := by decide +kernel
theorem dX3_add_4 : decode cX3_add 4 = .ok (.aload_n 0, 1) := by decide +kernel
theorem dX3_add_5 : decode cX3_add 5 = .ok (.getfield 44, 3) := by decide +kernel
theorem dX3_add_8 : decode cX3_add 8 = .ok (.aload_n 1, 1) := by decide +kernel
theorem dX3_add_9 : decode cX3_add 9 = .ok (.aastore, 1) := by decide +kernel
theorem dX3_add_10 : decode cX3_add 10 = .ok (.aload_n 0, 1) := by decide +kernel
theorem dX3_add_11 : decode cX3_add 11 = .ok (.getfield 21, 3) := by decide +kernel
theorem dX3_add_14 : decode cX3_add 14 = .ok (.aload_n 0, 1) := by decide +kernel
theorem dX3_add_15 : decode cX3_add 15 = .ok (.getfield 44, 3) := by decide +kernel
theorem dX3_add_18 : decode cX3_add 18 = .ok (.aload_n 2, 1) := by decide +kernel
theorem dX3_add_19 : decode cX3_add 19 = .ok (.aastore, 1) := by decide +kernel
theorem dX3_add_20 : decode cX3_add 20 = .ok (.aload_n 0, 1) := by decide +kernel
theorem dX3_add_21 : decode cX3_add 21 = .ok (.getfield 24, 3) := by decide +kernel
theorem dX3_add_24 : decode cX3_add 24 = .ok (.aload_n 0, 1) := by decide +kernel
theorem dX3_add_25 : decode cX3_add 25 = .ok (.getfield 44, 3) := by decide +kernel
theorem dX3_add_28 : decode cX3_add 28 = .ok (.aload_n 3, 1) := by decide +kernel
theorem dX3_add_29 : decode cX3_add 29 = .ok (.aastore, 1) := by decide +kernel
theorem dX3_add_30 : decode cX3_add 30 = .ok (.aload_n 0, 1) := by decide +kernel
theorem dX3_add_31 : decode cX3_add 31 = .ok (.dup, 1) := by decide +kernel
theorem dX3_add_32 : decode cX3_add 32 = .ok (.getfield 44, 3) := by decide +kernel
theorem dX3_add_35 : decode cX3_add 35 = .ok (.iconst 1, 1) := by decide +kernel
theorem dX3_add_36 : decode cX3_add 36 = .ok (.iadd, 1) := by decide +kernel
theorem dX3_add_37 : decode cX3_add 37 = .ok (.putfield 44, 3) := by decide +kernel
theorem dX3_add_40 : decode cX3_add 40 = .ok (.aload_n 0, 1) := by decide +kernel
theorem dX3_add_41 : decode cX3_add 41 = .ok (.getfield 44, 3) := by decide +kernel
theorem dX3_add_44 : decode cX3_add 44 = .ok (.iconst 1, 1) := by decide +kernel
theorem dX3_add_45 : decode cX3_add 45 = .ok (.isub, 1) := by decide +kernel
theorem dX3_add_46 : decode cX3_add 46 = .ok (.ireturn, 1) := by decide +kernel
set_option maxRecDepth 20000 in
theorem ggX3_difference_X3_isVersion : GoodIn wsX3_difference wsX3_isVersion := goodIn_r _ [9, 10, 11, 12, 8, 13, 34, 35, 36, 37, 38, 39, 40, 41, 42, 43, 44, 45] (by decide +kernel) (by decide +kernel)
set_option maxRecDepth 20000 in
theorem gX3_difference_X3_isVersion : GoodIn wsX3_difference (wsV RX3 66 RX3 yX3_isVersion wsX3_isVersion) := goodIn_app (goodIn_of _ (by decide +kernel)) ggX3_difference_X3_isVersion
set_option maxRecDepth 20000 in
theorem ggX3_difference_X3_fail : GoodIn wsX3_difference wsX3_fail := goodIn_r _ [17, 1, 34, 35, 36, 37, 38, 39, 40, 41, 42, 43, 44, 45] (by decide +kernel) (by decide +kernel)
set_option maxRecDepth 20000 in
theorem gX3_difference_X3_fail : GoodIn wsX3_difference (wsV RX3 47 RX3 yX3_fail wsX3_fail) := goodIn_app (goodIn_of _ (by decide +kernel)) ggX3_difference_X3_fail
set_option maxRecDepth 20000 in
theorem ggX3_difference_X3_isSize : GoodIn wsX3_difference wsX3_isSize := goodIn_r _ [20, 11, 12, 8, 13] (by decide +kernel) (by decide +kernel)
set_option maxRecDepth 20000 in
theorem gX3_difference_X3_isSize : GoodIn wsX3_difference (va_wsS RX3 78 yX3_isSize wsX3_isSize) := goodIn_app (goodIn_of _ (by decide +kernel)) ggX3_difference_X3_isSize
set_option maxRecDepth 20000 in
theorem ggX3_difference_X3_isLike : GoodIn wsX3_difference wsX3_isLike := goodIn_r _ [23] (by decide +kernel) (by decide +kernel)
set_option maxRecDepth 20000 in
theorem gX3_difference_X3_isLike : GoodIn wsX3_difference (va_wsS RX3 81 yX3_isLike wsX3_isLike) := goodIn_app (goodIn_of _ (by decide +kernel)) ggX3_difference_X3_isLike
set_option maxRecDepth 20000 in
theorem ggX3_difference_X3_blockLike : GoodIn wsX3_difference wsX3_blockLike := goodIn_r _ [26, 21, 22, 8, 23] (by decide +kernel) (by decide +kernel)
set_option maxRecDepth 20000 in
theorem gX3_difference_X3_blockLike : GoodIn wsX3_difference (va_wsS RX3 85 yX3_blockLike wsX3_blockLike) := goodIn_app (goodIn_of _ (by decide +kernel)) ggX3_difference_X3_blockLike
set_option maxRecDepth 20000 in
theorem ggX3_difference_X3_add : GoodIn wsX3_difference wsX3_add := goodIn_r _ [30, 31, 2, 32, 33, 34, 35, 36, 37, 38, 39, 40, 41, 42, 43, 44, 45] (by decide +kernel) (by decide +kernel)
set_option maxRecDepth 20000 in
theorem gX3_difference_X3_add : GoodIn wsX3_difference (wsV RX3 89 RX3 yX3_add wsX3_add) := goodIn_app (goodIn_of _ (by decide +kernel)) ggX3_difference_X3_add
theorem dX3_difference_0 : decode cX3_difference 0 = .ok (.aload_n 0, 1) := by decide +kernel
theorem dX3_difference_1 : decode cX3_difference 1 = .ok (.iconst 0, 1) := by decide +kernel
theorem dX3_difference_2 : decode cX3_difference 2 = .ok (.putfield 33, 3) := by decide +kernel
theorem dX3_difference_5 : decode cX3_difference 5 = .ok (.aload_n 0, 1) := by decide +kernel
theorem dX3_difference_6 : decode cX3_difference 6 = .ok (.iload_n 1, 1) := by decide +kernel
theorem dX3_difference_7 : decode cX3_difference 7 = .ok (.invokevirtual 66, 3) := by decide +kernel
theorem dX3_difference_10 : decode cX3_difference 10 = .ok (.ifCond .eq 11, 3) := by decide +kernel
theorem dX3_difference_13 : decode cX3_difference 13 = .ok (.aload_n 0, 1) := by decide +kernel
theorem dX3_difference_14 : decode cX3_difference 14 = .ok (.iload_n 2, 1) := by decide +kernel
theorem dX3_difference_15 : decode cX3_difference 15 = .ok (.invokevirtual 66, 3) := by decide +kernel
theorem dX3_difference_18 : decode cX3_difference 18 = .ok (.ifCond .ne 9, 3) := by decide +kernel
theorem dX3_difference_21 : decode cX3_difference 21 = .ok (.aload_n 0, 1) := by decide +kernel
theorem dX3_difference_22 : decode cX3_difference 22 = .ok (.iconst 1, 1) := by decide +kernel
theorem dX3_difference_23 : decode cX3_difference 23 = .ok (.invokevirtual 47, 3) := by decide +kernel
theorem dX3_difference_26 : decode cX3_difference 26 = .ok (.ireturn, 1) := by decide +kernel
theorem dX3_difference_27 : decode cX3_difference 27 = .ok (.iload_n 3, 1) := by decide +kernel
theorem dX3_difference_28 : decode cX3_difference 28 = .ok (.invokestatic 78, 3) := by decide +kernel
theorem dX3_difference_31 : decode cX3_difference 31 = .ok (.ifCond .ne 9, 3) := by decide +kernel
theorem dX3_difference_34 : decode cX3_difference 34 = .ok (.aload_n 0, 1) := by decide +kernel
theorem dX3_difference_35 : decode cX3_difference 35 = .ok (.iconst 2, 1) := by decide +kernel
theorem dX3_difference_36 : decode cX3_difference 36 = .ok (.invokevirtual 47, 3) := by decide +kernel
theorem dX3_difference_39 : decode cX3_difference 39 = .ok (.ireturn, 1) := by decide +kernel
theorem dX3_difference_40 : decode cX3_difference 40 = .ok (.aload_n 0, 1) := by decide +kernel
theorem dX3_difference_41 : decode cX3_difference 41 = .ok (.getfield 44, 3) := by decide +kernel
theorem dX3_difference_44 : decode cX3_difference 44 = .ok (.bipush 12, 2) := by decide +kernel
theorem dX3_difference_46 : decode cX3_difference 46 = .ok (.if_icmp .ne 9, 3) := by decide +kernel
theorem dX3_difference_49 : decode cX3_difference 49 = .ok (.aload_n 0, 1) := by decide +kernel
theorem dX3_difference_50 : decode cX3_difference 50 = .ok (.iconst 3, 1) := by decide +kernel
theorem dX3_difference_51 : decode cX3_difference 51 = .ok (.invokevirtual 47, 3) := by decide +kernel
theorem dX3_difference_54 : decode cX3_difference 54 = .ok (.ireturn, 1) := by decide +kernel
theorem dX3_difference_55 : decode cX3_difference 55 = .ok (.aload_n 0, 1) := by decide +kernel
theorem dX3_difference_56 : decode cX3_difference 56 = .ok (.getfield 14, 3) := by decide +kernel
theorem dX3_difference_59 : decode cX3_difference 59 = .ok (.iload_n 1, 1) := by decide +kernel
theorem dX3_difference_60 : decode cX3_difference 60 = .ok (.aaload, 1) := by decide +kernel
theorem dX3_difference_61 : decode cX3_difference 61 = .ok (.astore 4, 2) := by decide +kernel
theorem dX3_difference_63 : decode cX3_difference 63 = .ok (.aload_n 0, 1) := by decide +kernel
theorem dX3_difference_64 : decode cX3_difference 64 = .ok (.getfield 14, 3) := by decide +kernel
theorem dX3_difference_67 : decode cX3_difference 67 = .ok (.iload_n 2, 1) := by decide +kernel
theorem dX3_difference_68 : decode cX3_difference 68 = .ok (.aaload, 1) := by decide +kernel
theorem dX3_difference_69 : decode cX3_difference 69 = .ok (.astore 5, 2) := by decide +kernel
theorem dX3_difference_71 : decode cX3_difference 71 = .ok (.aload 5, 2) := by decide +kernel
theorem dX3_difference_73 : decode cX3_difference 73 = .ok (.arraylength, 1) := by decide +kernel
theorem dX3_difference_74 : decode cX3_difference 74 = .ok (.newarray .int, 2) := by decide +kernel
theorem dX3_difference_76 : decode cX3_difference 76 = .ok (.astore 6, 2) := by decide +kernel
theorem dX3_difference_78 : decode cX3_difference 78 = .ok (.iconst (-1), 1) := by decide +kernel
theorem dX3_difference_79 : decode cX3_difference 79 = .ok (.istore 7, 2) := by decide +kernel
theorem dX3_difference_81 : decode cX3_difference 81 = .ok (.iconst 0, 1) := by decide +kernel
theorem dX3_difference_82 : decode cX3_difference 82 = .ok (.istore 8, 2) := by decide +kernel
theorem dX3_difference_84 : decode cX3_difference 84 = .ok (.iload 8, 2) := by decide +kernel
theorem dX3_difference_86 : decode cX3_difference 86 = .ok (.aload 5, 2) := by decide +kernel
theorem dX3_difference_88 : decode cX3_difference 88 = .ok (.arraylength, 1) := by decide +kernel
theorem dX3_difference_89 : decode cX3_difference 89 = .ok (.if_icmp .ge 146, 3) := by decide +kernel
theorem dX3_difference_92 : decode cX3_difference 92 = .ok (.iconst (-1), 1) := by decide +kernel
theorem dX3_difference_93 : decode cX3_difference 93 = .ok (.istore 9, 2) := by decide +kernel
theorem dX3_difference_95 : decode cX3_difference 95 = .ok (.aload 5, 2) := by decide +kernel
theorem dX3_difference_97 : decode cX3_difference 97 = .ok (.arraylength, 1) := by decide +kernel
theorem dX3_difference_98 : decode cX3_difference 98 = .ok (.iload 8, 2) := by decide +kernel
theorem dX3_difference_100 : decode cX3_difference 100 = .ok (.isub, 1) := by decide +kernel
theorem dX3_difference_101 : decode cX3_difference 101 = .ok (.iload_n 3, 1) := by decide +kernel
theorem dX3_difference_102 : decode cX3_difference 102 = .ok (.if_icmp .lt 72, 3) := by decide +kernel
theorem dX3_difference_105 : decode cX3_difference 105 = .ok (.iload 7, 2) := by decide +kernel
theorem dX3_difference_107 : decode cX3_difference 107 = .ok (.iconst (-1), 1) := by decide +kernel
theorem dX3_difference_108 : decode cX3_difference 108 = .ok (.if_icmp .eq 38, 3) := by decide +kernel
theorem dX3_difference_111 : decode cX3_difference 111 = .ok (.iload 7, 2) := by decide +kernel
theorem dX3_difference_113 : decode cX3_difference 113 = .ok (.iconst 1, 1) := by decide +kernel
theorem dX3_difference_114 : decode cX3_difference 114 = .ok (.iadd, 1) := by decide +kernel
theorem dX3_difference_115 : decode cX3_difference 115 = .ok (.aload 4, 2) := by decide +kernel
theorem dX3_difference_117 : decode cX3_difference 117 = .ok (.arraylength, 1) := by decide +kernel
theorem dX3_difference_118 : decode cX3_difference 118 = .ok (.iload_n 3, 1) := by decide +kernel
theorem dX3_difference_119 : decode cX3_difference 119 = .ok (.idiv, 1) := by decide +kernel
theorem dX3_difference_120 : decode cX3_difference 120 = .ok (.if_icmp .ge 26, 3) := by decide +kernel
theorem dX3_difference_123 : decode cX3_difference 123 = .ok (.aload 4, 2) := by decide +kernel
theorem dX3_difference_125 : decode cX3_difference 125 = .ok (.iload 7, 2) := by decide +kernel
theorem dX3_difference_127 : decode cX3_difference 127 = .ok (.iconst 1, 1) := by decide +kernel
theorem dX3_difference_128 : decode cX3_difference 128 = .ok (.iadd, 1) := by decide +kernel
theorem dX3_difference_129 : decode cX3_difference 129 = .ok (.iload_n 3, 1) := by decide +kernel
theorem dX3_difference_130 : decode cX3_difference 130 = .ok (.imul, 1) := by decide +kernel
theorem dX3_difference_131 : decode cX3_difference 131 = .ok (.aload 5, 2) := by decide +kernel
theorem dX3_difference_133 : decode cX3_difference 133 = .ok (.iload 8, 2) := by decide +kernel
theorem dX3_difference_135 : decode cX3_difference 135 = .ok (.iload_n 3, 1) := by decide +kernel
theorem dX3_difference_136 : decode cX3_difference 136 = .ok (.invokestatic 81, 3) := by decide +kernel
theorem dX3_difference_139 : decode cX3_difference 139 = .ok (.ifCond .eq 7, 3) := by decide +kernel
theorem dX3_difference_142 : decode cX3_difference 142 = .ok (.iconst 1, 1) := by decide +kernel
theorem dX3_difference_143 : decode cX3_difference 143 = .ok (.goto 4, 3) := by decide +kernel
theorem dX3_difference_146 : decode cX3_difference 146 = .ok (.iconst 0, 1) := by decide +kernel
theorem dX3_difference_147 : decode cX3_difference 147 = .ok (.istore 10, 2) := by decide +kernel
theorem dX3_difference_149 : decode cX3_difference 149 = .ok (.iload 10, 2) := by decide +kernel
theorem dX3_difference_151 : decode cX3_difference 151 = .ok (.ifCond .eq 10, 3) := by decide +kernel
theorem dX3_difference_154 : decode cX3_difference 154 = .ok (.iload 7, 2) := by decide +kernel
theorem dX3_difference_156 : decode cX3_difference 156 = .ok (.iconst 1, 1) := by decide +kernel
theorem dX3_difference_157 : decode cX3_difference 157 = .ok (.iadd, 1) := by decide +kernel
theorem dX3_difference_158 : decode cX3_difference 158 = .ok (.goto 14, 3) := by decide +kernel
theorem dX3_difference_161 : decode cX3_difference 161 = .ok (.aload 4, 2) := by decide +kernel
theorem dX3_difference_163 : decode cX3_difference 163 = .ok (.iload_n 3, 1) := by decide +kernel
theorem dX3_difference_164 : decode cX3_difference 164 = .ok (.aload 5, 2) := by decide +kernel
theorem dX3_difference_166 : decode cX3_difference 166 = .ok (.iload 8, 2) := by decide +kernel
theorem dX3_difference_168 : decode cX3_difference 168 = .ok (.iconst 0, 1) := by decide +kernel
theorem dX3_difference_169 : decode cX3_difference 169 = .ok (.invokestatic 85, 3) := by decide +kernel
theorem dX3_difference_172 : decode cX3_difference 172 = .ok (.istore 9, 2) := by decide +kernel
theorem dX3_difference_174 : decode cX3_difference 174 = .ok (.iload 9, 2) := by decide +kernel
theorem dX3_difference_176 : decode cX3_difference 176 = .ok (.iconst (-1), 1) := by decide +kernel
theorem dX3_difference_177 : decode cX3_difference 177 = .ok (.if_icmp .ne 15, 3) := by decide +kernel
theorem dX3_difference_180 : decode cX3_difference 180 = .ok (.aload 6, 2) := by decide +kernel
theorem dX3_difference_182 : decode cX3_difference 182 = .ok (.iload 8, 2) := by decide +kernel
theorem dX3_difference_184 : decode cX3_difference 184 = .ok (.iconst (-1), 1) := by decide +kernel
theorem dX3_difference_185 : decode cX3_difference 185 = .ok (.iastore, 1) := by decide +kernel
theorem dX3_difference_186 : decode cX3_difference 186 = .ok (.iinc 8 1, 3) := by decide +kernel
theorem dX3_difference_189 : decode cX3_difference 189 = .ok (.goto (-105), 3) := by decide +kernel
theorem dX3_difference_192 : decode cX3_difference 192 = .ok (.iconst 0, 1) := by decide +kernel
theorem dX3_difference_193 : decode cX3_difference 193 = .ok (.istore 10, 2) := by decide +kernel
theorem dX3_difference_195 : decode cX3_difference 195 = .ok (.iload 10, 2) := by decide +kernel
theorem dX3_difference_197 : decode cX3_difference 197 = .ok (.iload_n 3, 1) := by decide +kernel
theorem dX3_difference_198 : decode cX3_difference 198 = .ok (.if_icmp .ge 24, 3) := by decide +kernel
theorem dX3_difference_201 : decode cX3_difference 201 = .ok (.aload 6, 2) := by decide +kernel
theorem dX3_difference_203 : decode cX3_difference 203 = .ok (.iload 8, 2) := by decide +kernel
theorem dX3_difference_205 : decode cX3_difference 205 = .ok (.iload 10, 2) := by decide +kernel
theorem dX3_difference_207 : decode cX3_difference 207 = .ok (.iadd, 1) := by decide +kernel
theorem dX3_difference_208 : decode cX3_difference 208 = .ok (.iload 9, 2) := by decide +kernel
theorem dX3_difference_210 : decode cX3_difference 210 = .ok (.iload_n 3, 1) := by decide +kernel
theorem dX3_difference_211 : decode cX3_difference 211 = .ok (.imul, 1) := by decide +kernel
theorem dX3_difference_212 : decode cX3_difference 212 = .ok (.iload 10, 2) := by decide +kernel
theorem dX3_difference_214 : decode cX3_difference 214 = .ok (.iadd, 1) := by decide +kernel
theorem dX3_difference_215 : decode cX3_difference 215 = .ok (.iastore, 1) := by decide +kernel
theorem dX3_difference_216 : decode cX3_difference 216 = .ok (.iinc 10 1, 3) := by decide +kernel
theorem dX3_difference_219 : decode cX3_difference 219 = .ok (.goto (-24), 3) := by decide +kernel
theorem dX3_difference_222 : decode cX3_difference 222 = .ok (.iload 8, 2) := by decide +kernel
theorem dX3_difference_224 : decode cX3_difference 224 = .ok (.iload_n 3, 1) := by decide +kernel
theorem dX3_difference_225 : decode cX3_difference 225 = .ok (.iadd, 1) := by decide +kernel
theorem dX3_difference_226 : decode cX3_difference 226 = .ok (.istore 8, 2) := by decide +kernel
theorem dX3_difference_228 : decode cX3_difference 228 = .ok (.iload 9, 2) := by decide +kernel
theorem dX3_difference_230 : decode cX3_difference 230 = .ok (.istore 7, 2) := by decide +kernel
theorem dX3_difference_232 : decode cX3_difference 232 = .ok (.goto (-148), 3) := by decide +kernel
theorem dX3_difference_235 : decode cX3_difference 235 = .ok (.aload_n 0, 1) := by decide +kernel
theorem dX3_difference_236 : decode cX3_difference 236 = .ok (.aload 4, 2) := by decide +kernel
theorem dX3_difference_238 : decode cX3_difference 238 = .ok (.aload 5, 2) := by decide +kernel
theorem dX3_difference_240 : decode cX3_difference 240 = .ok (.aload 6, 2) := by decide +kernel
theorem dX3_difference_242 : decode cX3_difference 242 = .ok (.invokevirtual 89, 3) := by decide +kernel
theorem dX3_difference_245 : decode cX3_difference 245 = .ok (.ireturn, 1) := by decide +kernel
set_option maxRecDepth 20000 in
theorem ggX3_compose_X3_isPatch : GoodIn wsX3_compose wsX3_isPatch := goodIn_r _ [11, 4, 12, 13, 10, 14, 26, 27, 28, 29, 30, 31, 32, 33, 34, 35, 36, 37] (by decide +kernel) (by decide +kernel)
set_option maxRecDepth 20000 in
theorem gX3_compose_X3_isPatch : GoodIn wsX3_compose (wsV RX3 93 RX3 yX3_isPatch wsX3_isPatch) := goodIn_app (goodIn_of _ (by decide +kernel)) ggX3_compose_X3_isPatch
set_option maxRecDepth 20000 in
theorem ggX3_compose_X3_fail : GoodIn wsX3_compose wsX3_fail := goodIn_r _ [18, 1, 26, 27, 28, 29, 30, 31, 32, 33, 34, 35, 36, 37] (by decide +kernel) (by decide +kernel)
set_option maxRecDepth 20000 in
theorem gX3_compose_X3_fail : GoodIn wsX3_compose (wsV RX3 47 RX3 yX3_fail wsX3_fail) := goodIn_app (goodIn_of _ (by decide +kernel)) ggX3_compose_X3_fail
set_option maxRecDepth 20000 in
theorem ggX3_compose_X3_are : GoodIn wsX3_compose wsX3_are := goodIn_r _ [21] (by decide +kernel) (by decide +kernel)
set_option maxRecDepth 20000 in
theorem gX3_compose_X3_are : GoodIn wsX3_compose (va_wsS RX3 70 yX3_are wsX3_are) := goodIn_app (goodIn_of _ (by decide +kernel)) ggX3_compose_X3_are
set_option maxRecDepth 20000 in
theorem ggX3_compose_X3_add : GoodIn wsX3_compose wsX3_add := goodIn_r _ [25, 3, 4, 2, 6, 26, 27, 28, 29, 30, 31, 32, 33, 34, 35, 36, 37] (by decide +kernel) (by decide +kernel)
set_option maxRecDepth 20000 in
theorem gX3_compose_X3_add : GoodIn wsX3_compose (wsV RX3 89 RX3 yX3_add wsX3_add) := goodIn_app (goodIn_of _ (by decide +kernel)) ggX3_compose_X3_add
theorem dX3_compose_0 : decode cX3_compose 0 = .ok (.aload_n 0, 1) := by decide +kernel
theorem dX3_compose_1 : decode cX3_compose 1 = .ok (.iconst 0, 1) := by decide +kernel
theorem dX3_compose_2 : decode cX3_compose 2 = .ok (.putfield 33, 3) := by decide +kernel
theorem dX3_compose_5 : decode cX3_compose 5 = .ok (.aload_n 0, 1) := by decide +kernel
theorem dX3_compose_6 : decode cX3_compose 6 = .ok (.iload_n 1, 1) := by decide +kernel
theorem dX3_compose_7 : decode cX3_compose 7 = .ok (.invokevirtual 93, 3) := by decide +kernel
theorem dX3_compose_10 : decode cX3_compose 10 = .ok (.ifCond .eq 11, 3) := by decide +kernel
theorem dX3_compose_13 : decode cX3_compose 13 = .ok (.aload_n 0, 1) := by decide +kernel
theorem dX3_compose_14 : decode cX3_compose 14 = .ok (.iload_n 2, 1) := by decide +kernel
theorem dX3_compose_15 : decode cX3_compose 15 = .ok (.invokevirtual 93, 3) := by decide +kernel
theorem dX3_compose_18 : decode cX3_compose 18 = .ok (.ifCond .ne 9, 3) := by decide +kernel
theorem dX3_compose_21 : decode cX3_compose 21 = .ok (.aload_n 0, 1) := by decide +kernel
theorem dX3_compose_22 : decode cX3_compose 22 = .ok (.iconst 1, 1) := by decide +kernel
theorem dX3_compose_23 : decode cX3_compose 23 = .ok (.invokevirtual 47, 3) := by decide +kernel
theorem dX3_compose_26 : decode cX3_compose 26 = .ok (.ireturn, 1) := by decide +kernel
theorem dX3_compose_27 : decode cX3_compose 27 = .ok (.aload_n 0, 1) := by decide +kernel
theorem dX3_compose_28 : decode cX3_compose 28 = .ok (.getfield 21, 3) := by decide +kernel
theorem dX3_compose_31 : decode cX3_compose 31 = .ok (.iload_n 1, 1) := by decide +kernel
theorem dX3_compose_32 : decode cX3_compose 32 = .ok (.aaload, 1) := by decide +kernel
theorem dX3_compose_33 : decode cX3_compose 33 = .ok (.aload_n 0, 1) := by decide +kernel
theorem dX3_compose_34 : decode cX3_compose 34 = .ok (.getfield 18, 3) := by decide +kernel
theorem dX3_compose_37 : decode cX3_compose 37 = .ok (.iload_n 2, 1) := by decide +kernel
theorem dX3_compose_38 : decode cX3_compose 38 = .ok (.aaload, 1) := by decide +kernel
theorem dX3_compose_39 : decode cX3_compose 39 = .ok (.invokestatic 70, 3) := by decide +kernel
theorem dX3_compose_42 : decode cX3_compose 42 = .ok (.ifCond .ne 9, 3) := by decide +kernel
theorem dX3_compose_45 : decode cX3_compose 45 = .ok (.aload_n 0, 1) := by decide +kernel
theorem dX3_compose_46 : decode cX3_compose 46 = .ok (.iconst 2, 1) := by decide +kernel
theorem dX3_compose_47 : decode cX3_compose 47 = .ok (.invokevirtual 47, 3) := by decide +kernel
theorem dX3_compose_50 : decode cX3_compose 50 = .ok (.ireturn, 1) := by decide +kernel
theorem dX3_compose_51 : decode cX3_compose 51 = .ok (.aload_n 0, 1) := by decide +kernel
theorem dX3_compose_52 : decode cX3_compose 52 = .ok (.getfield 44, 3) := by decide +kernel
theorem dX3_compose_55 : decode cX3_compose 55 = .ok (.bipush 12, 2) := by decide +kernel
theorem dX3_compose_57 : decode cX3_compose 57 = .ok (.if_icmp .ne 9, 3) := by decide +kernel
theorem dX3_compose_60 : decode cX3_compose 60 = .ok (.aload_n 0, 1) := by decide +kernel
theorem dX3_compose_61 : decode cX3_compose 61 = .ok (.iconst 3, 1) := by decide +kernel
theorem dX3_compose_62 : decode cX3_compose 62 = .ok (.invokevirtual 47, 3) := by decide +kernel
theorem dX3_compose_65 : decode cX3_compose 65 = .ok (.ireturn, 1) := by decide +kernel
theorem dX3_compose_66 : decode cX3_compose 66 = .ok (.aload_n 0, 1) := by decide +kernel
theorem dX3_compose_67 : decode cX3_compose 67 = .ok (.getfield 21, 3) := by decide +kernel
theorem dX3_compose_70 : decode cX3_compose 70 = .ok (.iload_n 2, 1) := by decide +kernel
theorem dX3_compose_71 : decode cX3_compose 71 = .ok (.aaload, 1) := by decide +kernel
theorem dX3_compose_72 : decode cX3_compose 72 = .ok (.arraylength, 1) := by decide +kernel
theorem dX3_compose_73 : decode cX3_compose 73 = .ok (.newarray .int, 2) := by decide +kernel
theorem dX3_compose_75 : decode cX3_compose 75 = .ok (.astore_n 3, 1) := by decide +kernel
theorem dX3_compose_76 : decode cX3_compose 76 = .ok (.iconst 0, 1) := by decide +kernel
theorem dX3_compose_77 : decode cX3_compose 77 = .ok (.istore 4, 2) := by decide +kernel
theorem dX3_compose_79 : decode cX3_compose 79 = .ok (.iload 4, 2) := by decide +kernel
theorem dX3_compose_81 : decode cX3_compose 81 = .ok (.aload_n 3, 1) := by decide +kernel
theorem dX3_compose_82 : decode cX3_compose 82 = .ok (.arraylength, 1) := by decide +kernel
theorem dX3_compose_83 : decode cX3_compose 83 = .ok (.if_icmp .ge 46, 3) := by decide +kernel
theorem dX3_compose_86 : decode cX3_compose 86 = .ok (.aload_n 3, 1) := by decide +kernel
theorem dX3_compose_87 : decode cX3_compose 87 = .ok (.iload 4, 2) := by decide +kernel
theorem dX3_compose_89 : decode cX3_compose 89 = .ok (.aload_n 0, 1) := by decide +kernel
theorem dX3_compose_90 : decode cX3_compose 90 = .ok (.getfield 24, 3) := by decide +kernel
theorem dX3_compose_93 : decode cX3_compose 93 = .ok (.iload_n 2, 1) := by decide +kernel
theorem dX3_compose_94 : decode cX3_compose 94 = .ok (.aaload, 1) := by decide +kernel
theorem dX3_compose_95 : decode cX3_compose 95 = .ok (.iload 4, 2) := by decide +kernel
theorem dX3_compose_97 : decode cX3_compose 97 = .ok (.iaload, 1) := by decide +kernel
theorem dX3_compose_98 : decode cX3_compose 98 = .ok (.iconst (-1), 1) := by decide +kernel
theorem dX3_compose_99 : decode cX3_compose 99 = .ok (.if_icmp .ne 7, 3) := by decide +kernel
theorem dX3_compose_102 : decode cX3_compose 102 = .ok (.iconst (-1), 1) := by decide +kernel
theorem dX3_compose_103 : decode cX3_compose 103 = .ok (.goto 19, 3) := by decide +kernel
theorem dX3_compose_106 : decode cX3_compose 106 = .ok (.aload_n 0, 1) := by decide +kernel
theorem dX3_compose_107 : decode cX3_compose 107 = .ok (.getfield 24, 3) := by decide +kernel
theorem dX3_compose_110 : decode cX3_compose 110 = .ok (.iload_n 1, 1) := by decide +kernel
theorem dX3_compose_111 : decode cX3_compose 111 = .ok (.aaload, 1) := by decide +kernel
theorem dX3_compose_112 : decode cX3_compose 112 = .ok (.aload_n 0, 1) := by decide +kernel
theorem dX3_compose_113 : decode cX3_compose 113 = .ok (.getfield 24, 3) := by decide +kernel
theorem dX3_compose_116 : decode cX3_compose 116 = .ok (.iload_n 2, 1) := by decide +kernel
theorem dX3_compose_117 : decode cX3_compose 117 = .ok (.aaload, 1) := by decide +kernel
theorem dX3_compose_118 : decode cX3_compose 118 = .ok (.iload 4, 2) := by decide +kernel
theorem dX3_compose_120 : decode cX3_compose 120 = .ok (.iaload, 1) := by decide +kernel
theorem dX3_compose_121 : decode cX3_compose 121 = .ok (.iaload, 1) := by decide +kernel
theorem dX3_compose_122 : decode cX3_compose 122 = .ok (.iastore, 1) := by decide +kernel
theorem dX3_compose_123 : decode cX3_compose 123 = .ok (.iinc 4 1, 3) := by decide +kernel
theorem dX3_compose_126 : decode cX3_compose 126 = .ok (.goto (-47), 3) := by decide +kernel
theorem dX3_compose_129 : decode cX3_compose 129 = .ok (.aload_n 0, 1) := by decide +kernel
theorem dX3_compose_130 : decode cX3_compose 130 = .ok (.aload_n 0, 1) := by decide +kernel
theorem dX3_compose_131 : decode cX3_compose 131 = .ok (.getfield 18, 3) := by decide +kernel
theorem dX3_compose_134 : decode cX3_compose 134 = .ok (.iload_n 1, 1) := by decide +kernel
theorem dX3_compose_135 : decode cX3_compose 135 = .ok (.aaload, 1) := by decide +kernel
theorem dX3_compose_136 : decode cX3_compose 136 = .ok (.aload_n 0, 1) := by decide +kernel
theorem dX3_compose_137 : decode cX3_compose 137 = .ok (.getfield 21, 3) := by decide +kernel
theorem dX3_compose_140 : decode cX3_compose 140 = .ok (.iload_n 2, 1) := by decide +kernel
theorem dX3_compose_141 : decode cX3_compose 141 = .ok (.aaload, 1) := by decide +kernel
theorem dX3_compose_142 : decode cX3_compose 142 = .ok (.aload_n 3, 1) := by decide +kernel
theorem dX3_compose_143 : decode cX3_compose 143 = .ok (.invokevirtual 89, 3) := by decide +kernel
theorem dX3_compose_146 : decode cX3_compose 146 = .ok (.ireturn, 1) := by decide +kernel
theorem dX3_patches_0 : decode cX3_patches 0 = .ok (.aload_n 0, 1) := by decide +kernel
theorem dX3_patches_1 : decode cX3_patches 1 = .ok (.iconst 0, 1) := by decide +kernel
theorem dX3_patches_2 : decode cX3_patches 2 = .ok (.putfield 33, 3) := by decide +kernel
theorem dX3_patches_5 : decode cX3_patches 5 = .ok (.aload_n 0, 1) := by decide +kernel
theorem dX3_patches_6 : decode cX3_patches 6 = .ok (.getfield 44, 3) := by decide +kernel
theorem dX3_patches_9 : decode cX3_patches 9 = .ok (.ireturn, 1) := by decide +kernel
theorem dX3_begins_0 : decode cX3_begins 0 = .ok (.iload_n 2, 1) := by decide +kernel
theorem dX3_begins_1 : decode cX3_begins 1 = .ok (.ifCond .ne 5, 3) := by decide +kernel
theorem dX3_begins_4 : decode cX3_begins 4 = .ok (.iconst 1, 1) := by decide +kernel
theorem dX3_begins_5 : decode cX3_begins 5 = .ok (.ireturn, 1) := by decide +kernel
theorem dX3_begins_6 : decode cX3_begins 6 = .ok (.aload_n 0, 1) := by decide +kernel
theorem dX3_begins_7 : decode cX3_begins 7 = .ok (.getfield 24, 3) := by decide +kernel
theorem dX3_begins_10 : decode cX3_begins 10 = .ok (.iload_n 1, 1) := by decide +kernel
theorem dX3_begins_11 : decode cX3_begins 11 = .ok (.aaload, 1) := by decide +kernel
theorem dX3_begins_12 : decode cX3_begins 12 = .ok (.iload_n 2, 1) := by decide +kernel
theorem dX3_begins_13 : decode cX3_begins 13 = .ok (.iconst 1, 1) := by decide +kernel
theorem dX3_begins_14 : decode cX3_begins 14 = .ok (.isub, 1) := by decide +kernel
theorem dX3_begins_15 : decode cX3_begins 15 = .ok (.iaload, 1) := by decide +kernel
theorem dX3_begins_16 : decode cX3_begins 16 = .ok (.istore_n 3, 1) := by decide +kernel
theorem dX3_begins_17 : decode cX3_begins 17 = .ok (.aload_n 0, 1) := by decide +kernel
theorem dX3_begins_18 : decode cX3_begins 18 = .ok (.getfield 24, 3) := by decide +kernel
theorem dX3_begins_21 : decode cX3_begins 21 = .ok (.iload_n 1, 1) := by decide +kernel
theorem dX3_begins_22 : decode cX3_begins 22 = .ok (.aaload, 1) := by decide +kernel
theorem dX3_begins_23 : decode cX3_begins 23 = .ok (.iload_n 2, 1) := by decide +kernel
theorem dX3_begins_24 : decode cX3_begins 24 = .ok (.iaload, 1) := by decide +kernel
theorem dX3_begins_25 : decode cX3_begins 25 = .ok (.istore 4, 2) := by decide +kernel
theorem dX3_begins_27 : decode cX3_begins 27 = .ok (.iload_n 3, 1) := by decide +kernel
theorem dX3_begins_28 : decode cX3_begins 28 = .ok (.iconst (-1), 1) := by decide +kernel
theorem dX3_begins_29 : decode cX3_begins 29 = .ok (.if_icmp .ne 17, 3) := by decide +kernel
theorem dX3_begins_32 : decode cX3_begins 32 = .ok (.iload 4, 2) := by decide +kernel
theorem dX3_begins_34 : decode cX3_begins 34 = .ok (.iconst (-1), 1) := by decide +kernel
theorem dX3_begins_35 : decode cX3_begins 35 = .ok (.if_icmp .eq 7, 3) := by decide +kernel
theorem dX3_begins_38 : decode cX3_begins 38 = .ok (.iconst 1, 1) := by decide +kernel
theorem dX3_begins_39 : decode cX3_begins 39 = .ok (.goto 20, 3) := by decide +kernel
theorem dX3_begins_42 : decode cX3_begins 42 = .ok (.iconst 0, 1) := by decide +kernel
theorem dX3_begins_43 : decode cX3_begins 43 = .ok (.goto 16, 3) := by decide +kernel
theorem dX3_begins_46 : decode cX3_begins 46 = .ok (.iload 4, 2) := by decide +kernel
theorem dX3_begins_48 : decode cX3_begins 48 = .ok (.iload_n 3, 1) := by decide +kernel
theorem dX3_begins_49 : decode cX3_begins 49 = .ok (.iconst 1, 1) := by decide +kernel
theorem dX3_begins_50 : decode cX3_begins 50 = .ok (.iadd, 1) := by decide +kernel
theorem dX3_begins_51 : decode cX3_begins 51 = .ok (.if_icmp .eq 7, 3) := by decide +kernel
theorem dX3_begins_54 : decode cX3_begins 54 = .ok (.iconst 1, 1) := by decide +kernel
theorem dX3_begins_55 : decode cX3_begins 55 = .ok (.goto 4, 3) := by decide +kernel
theorem dX3_begins_58 : decode cX3_begins 58 = .ok (.iconst 0, 1) := by decide +kernel
theorem dX3_begins_59 : decode cX3_begins 59 = .ok (.ireturn, 1) := by decide +kernel
set_option maxRecDepth 20000 in
theorem ggX3_many_X3_begins : GoodIn wsX3_many wsX3_begins := goodIn_r _ [6, 1, 7, 8, 9, 10, 11, 12, 13, 14, 15, 16, 17, 18] (by decide +kernel) (by decide +kernel)
set_option maxRecDepth 20000 in
theorem gX3_many_X3_begins : GoodIn wsX3_many (wsV RX3 96 RX3 yX3_begins wsX3_begins) := goodIn_app (goodIn_of _ (by decide +kernel)) ggX3_many_X3_begins
theorem dX3_many_0 : decode cX3_many 0 = .ok (.iconst 0, 1) := by decide +kernel
theorem dX3_many_1 : decode cX3_many 1 = .ok (.istore_n 2, 1) := by decide +kernel
theorem dX3_many_2 : decode cX3_many 2 = .ok (.iconst 0, 1) := by decide +kernel
theorem dX3_many_3 : decode cX3_many 3 = .ok (.istore_n 3, 1) := by decide +kernel
theorem dX3_many_4 : decode cX3_many 4 = .ok (.iload_n 3, 1) := by decide +kernel
theorem dX3_many_5 : decode cX3_many 5 = .ok (.aload_n 0, 1) := by decide +kernel
theorem dX3_many_6 : decode cX3_many 6 = .ok (.getfield 24, 3) := by decide +kernel
theorem dX3_many_9 : decode cX3_many 9 = .ok (.iload_n 1, 1) := by decide +kernel
theorem dX3_many_10 : decode cX3_many 10 = .ok (.aaload, 1) := by decide +kernel
theorem dX3_many_11 : decode cX3_many 11 = .ok (.arraylength, 1) := by decide +kernel
theorem dX3_many_12 : decode cX3_many 12 = .ok (.if_icmp .ge 26, 3) := by decide +kernel
theorem dX3_many_15 : decode cX3_many 15 = .ok (.iload_n 2, 1) := by decide +kernel
theorem dX3_many_16 : decode cX3_many 16 = .ok (.aload_n 0, 1) := by decide +kernel
theorem dX3_many_17 : decode cX3_many 17 = .ok (.iload_n 1, 1) := by decide +kernel
theorem dX3_many_18 : decode cX3_many 18 = .ok (.iload_n 3, 1) := by decide +kernel
theorem dX3_many_19 : decode cX3_many 19 = .ok (.invokevirtual 96, 3) := by decide +kernel
theorem dX3_many_22 : decode cX3_many 22 = .ok (.ifCond .eq 7, 3) := by decide +kernel
theorem dX3_many_25 : decode cX3_many 25 = .ok (.iconst 1, 1) := by decide +kernel
theorem dX3_many_26 : decode cX3_many 26 = .ok (.goto 4, 3) := by decide +kernel
theorem dX3_many_29 : decode cX3_many 29 = .ok (.iconst 0, 1) := by decide +kernel
theorem dX3_many_30 : decode cX3_many 30 = .ok (.iadd, 1) := by decide +kernel
theorem dX3_many_31 : decode cX3_many 31 = .ok (.istore_n 2, 1) := by decide +kernel
theorem dX3_many_32 : decode cX3_many 32 = .ok (.iinc 3 1, 3) := by decide +kernel
theorem dX3_many_35 : decode cX3_many 35 = .ok (.goto (-31), 3) := by decide +kernel
theorem dX3_many_38 : decode cX3_many 38 = .ok (.iload_n 2, 1) := by decide +kernel
theorem dX3_many_39 : decode cX3_many 39 = .ok (.ireturn, 1) := by decide +kernel
set_option maxRecDepth 20000 in
theorem ggX3_instructions_X3_isPatch : GoodIn wsX3_instructions wsX3_isPatch := goodIn_r _ [6, 7, 8, 9, 5, 10, 24, 25, 26, 27, 28, 29, 30, 31, 32, 33, 34, 35] (by decide +kernel) (by decide +kernel)
set_option maxRecDepth 20000 in
theorem gX3_instructions_X3_isPatch : GoodIn wsX3_instructions (wsV RX3 93 RX3 yX3_isPatch wsX3_isPatch) := goodIn_app (goodIn_of _ (by decide +kernel)) ggX3_instructions_X3_isPatch
set_option maxRecDepth 20000 in
theorem ggX3_instructions_X3_many : GoodIn wsX3_instructions wsX3_many := goodIn_r _ [14, 15, 16, 17, 18, 5, 19, 24, 25, 26, 27, 28, 29, 30, 31, 32, 33, 34, 35] (by decide +kernel) (by decide +kernel)
set_option maxRecDepth 20000 in
theorem gX3_instructions_X3_many : GoodIn wsX3_instructions (wsV RX3 100 RX3 yX3_many wsX3_many) := goodIn_app (goodIn_of _ (by decide +kernel)) ggX3_instructions_X3_many
set_option maxRecDepth 20000 in
theorem ggX3_instructions_X3_fail : GoodIn wsX3_instructions wsX3_fail := goodIn_r _ [23, 1, 24, 25, 26, 27, 28, 29, 30, 31, 32, 33, 34, 35] (by decide +kernel) (by decide +kernel)
set_option maxRecDepth 20000 in
theorem gX3_instructions_X3_fail : GoodIn wsX3_instructions (wsV RX3 47 RX3 yX3_fail wsX3_fail) := goodIn_app (goodIn_of _ (by decide +kernel)) ggX3_instructions_X3_fail
theorem dX3_instructions_0 : decode cX3_instructions 0 = .ok (.aload_n 0, 1) := by decide +kernel
theorem dX3_instructions_1 : decode cX3_instructions 1 = .ok (.iconst 0, 1) := by decide +kernel
theorem dX3_instructions_2 : decode cX3_instructions 2 = .ok (.putfield 33, 3) := by decide +kernel
theorem dX3_instructions_5 : decode cX3_instructions 5 = .ok (.aload_n 0, 1) := by decide +kernel
theorem dX3_instructions_6 : decode cX3_instructions 6 = .ok (.iload_n 1, 1) := by decide +kernel
theorem dX3_instructions_7 : decode cX3_instructions 7 = .ok (.invokevirtual 93, 3) := by decide +kernel
theorem dX3_instructions_10 : decode cX3_instructions 10 = .ok (.ifCond .eq 11, 3) := by decide +kernel
theorem dX3_instructions_13 : decode cX3_instructions 13 = .ok (.aload_n 0, 1) := by decide +kernel
theorem dX3_instructions_14 : decode cX3_instructions 14 = .ok (.iload_n 1, 1) := by decide +kernel
theorem dX3_instructions_15 : decode cX3_instructions 15 = .ok (.invokevirtual 100, 3) := by decide +kernel
theorem dX3_instructions_18 : decode cX3_instructions 18 = .ok (.goto 8, 3) := by decide +kernel
theorem dX3_instructions_21 : decode cX3_instructions 21 = .ok (.aload_n 0, 1) := by decide +kernel
theorem dX3_instructions_22 : decode cX3_instructions 22 = .ok (.iconst 1, 1) := by decide +kernel
theorem dX3_instructions_23 : decode cX3_instructions 23 = .ok (.invokevirtual 47, 3) := by decide +kernel
theorem dX3_instructions_26 : decode cX3_instructions 26 = .ok (.ireturn, 1) := by decide +kernel
set_option maxRecDepth 20000 in
theorem ggX3_told_X3_begins : GoodIn wsX3_told wsX3_begins := goodIn_r _ [7, 1, 11, 12, 13, 14, 15, 16, 17, 18, 19, 20, 21, 22] (by decide +kernel) (by decide +kernel)
set_option maxRecDepth 20000 in
theorem gX3_told_X3_begins : GoodIn wsX3_told (wsV RX3 96 RX3 yX3_begins wsX3_begins) := goodIn_app (goodIn_of _ (by decide +kernel)) ggX3_told_X3_begins
set_option maxRecDepth 20000 in
theorem ggX3_told_X3_sumOf : GoodIn wsX3_told wsX3_sumOf := goodIn_r _ [10] (by decide +kernel) (by decide +kernel)
set_option maxRecDepth 20000 in
theorem gX3_told_X3_sumOf : GoodIn wsX3_told (va_wsS RX3 74 yX3_sumOf wsX3_sumOf) := goodIn_app (goodIn_of _ (by decide +kernel)) ggX3_told_X3_sumOf
theorem dX3_told_0 : decode cX3_told 0 = .ok (.iconst (-1), 1) := by decide +kernel
theorem dX3_told_1 : decode cX3_told 1 = .ok (.istore 4, 2) := by decide +kernel
theorem dX3_told_3 : decode cX3_told 3 = .ok (.iload_n 2, 1) := by decide +kernel
theorem dX3_told_4 : decode cX3_told 4 = .ok (.istore 5, 2) := by decide +kernel
theorem dX3_told_6 : decode cX3_told 6 = .ok (.iload 5, 2) := by decide +kernel
theorem dX3_told_8 : decode cX3_told 8 = .ok (.ifCond .lt 28, 3) := by decide +kernel
theorem dX3_told_11 : decode cX3_told 11 = .ok (.iinc 4 1, 3) := by decide +kernel
theorem dX3_told_14 : decode cX3_told 14 = .ok (.aload_n 0, 1) := by decide +kernel
theorem dX3_told_15 : decode cX3_told 15 = .ok (.iload_n 1, 1) := by decide +kernel
theorem dX3_told_16 : decode cX3_told 16 = .ok (.iload 4, 2) := by decide +kernel
theorem dX3_told_18 : decode cX3_told 18 = .ok (.invokevirtual 96, 3) := by decide +kernel
theorem dX3_told_21 : decode cX3_told 21 = .ok (.ifCond .ne 9, 3) := by decide +kernel
theorem dX3_told_24 : decode cX3_told 24 = .ok (.iinc 4 1, 3) := by decide +kernel
theorem dX3_told_27 : decode cX3_told 27 = .ok (.goto (-13), 3) := by decide +kernel
theorem dX3_told_30 : decode cX3_told 30 = .ok (.iinc 5 (-1), 3) := by decide +kernel
theorem dX3_told_33 : decode cX3_told 33 = .ok (.goto (-27), 3) := by decide +kernel
theorem dX3_told_36 : decode cX3_told 36 = .ok (.iload 4, 2) := by decide +kernel
theorem dX3_told_38 : decode cX3_told 38 = .ok (.iconst 1, 1) := by decide +kernel
theorem dX3_told_39 : decode cX3_told 39 = .ok (.iadd, 1) := by decide +kernel
theorem dX3_told_40 : decode cX3_told 40 = .ok (.istore 5, 2) := by decide +kernel
theorem dX3_told_42 : decode cX3_told 42 = .ok (.iload 5, 2) := by decide +kernel
theorem dX3_told_44 : decode cX3_told 44 = .ok (.aload_n 0, 1) := by decide +kernel
theorem dX3_told_45 : decode cX3_told 45 = .ok (.getfield 24, 3) := by decide +kernel
theorem dX3_told_48 : decode cX3_told 48 = .ok (.iload_n 1, 1) := by decide +kernel
theorem dX3_told_49 : decode cX3_told 49 = .ok (.aaload, 1) := by decide +kernel
theorem dX3_told_50 : decode cX3_told 50 = .ok (.arraylength, 1) := by decide +kernel
theorem dX3_told_51 : decode cX3_told 51 = .ok (.if_icmp .ge 19, 3) := by decide +kernel
theorem dX3_told_54 : decode cX3_told 54 = .ok (.aload_n 0, 1) := by decide +kernel
theorem dX3_told_55 : decode cX3_told 55 = .ok (.iload_n 1, 1) := by decide +kernel
theorem dX3_told_56 : decode cX3_told 56 = .ok (.iload 5, 2) := by decide +kernel
theorem dX3_told_58 : decode cX3_told 58 = .ok (.invokevirtual 96, 3) := by decide +kernel
theorem dX3_told_61 : decode cX3_told 61 = .ok (.ifCond .ne 9, 3) := by decide +kernel
theorem dX3_told_64 : decode cX3_told 64 = .ok (.iinc 5 1, 3) := by decide +kernel
theorem dX3_told_67 : decode cX3_told 67 = .ok (.goto (-25), 3) := by decide +kernel
theorem dX3_told_70 : decode cX3_told 70 = .ok (.aload_n 0, 1) := by decide +kernel
theorem dX3_told_71 : decode cX3_told 71 = .ok (.getfield 24, 3) := by decide +kernel
theorem dX3_told_74 : decode cX3_told 74 = .ok (.iload_n 1, 1) := by decide +kernel
theorem dX3_told_75 : decode cX3_told 75 = .ok (.aaload, 1) := by decide +kernel
theorem dX3_told_76 : decode cX3_told 76 = .ok (.iload 4, 2) := by decide +kernel
theorem dX3_told_78 : decode cX3_told 78 = .ok (.iaload, 1) := by decide +kernel
theorem dX3_told_79 : decode cX3_told 79 = .ok (.istore 6, 2) := by decide +kernel
theorem dX3_told_81 : decode cX3_told 81 = .ok (.iload_n 3, 1) := by decide +kernel
theorem dX3_told_82 : decode cX3_told 82 = .ok (.ifCond .ne 15, 3) := by decide +kernel
theorem dX3_told_85 : decode cX3_told 85 = .ok (.iload 6, 2) := by decide +kernel
theorem dX3_told_87 : decode cX3_told 87 = .ok (.iconst (-1), 1) := by decide +kernel
theorem dX3_told_88 : decode cX3_told 88 = .ok (.if_icmp .ne 7, 3) := by decide +kernel
theorem dX3_told_91 : decode cX3_told 91 = .ok (.iconst 1, 1) := by decide +kernel
theorem dX3_told_92 : decode cX3_told 92 = .ok (.goto 4, 3) := by decide +kernel
theorem dX3_told_95 : decode cX3_told 95 = .ok (.iconst 0, 1) := by decide +kernel
theorem dX3_told_96 : decode cX3_told 96 = .ok (.ireturn, 1) := by decide +kernel
theorem dX3_told_97 : decode cX3_told 97 = .ok (.iload_n 3, 1) := by decide +kernel
theorem dX3_told_98 : decode cX3_told 98 = .ok (.iconst 1, 1) := by decide +kernel
theorem dX3_told_99 : decode cX3_told 99 = .ok (.if_icmp .ne 6, 3) := by decide +kernel
theorem dX3_told_102 : decode cX3_told 102 = .ok (.iload 6, 2) := by decide +kernel
theorem dX3_told_104 : decode cX3_told 104 = .ok (.ireturn, 1) := by decide +kernel
theorem dX3_told_105 : decode cX3_told 105 = .ok (.iload_n 3, 1) := by decide +kernel
theorem dX3_told_106 : decode cX3_told 106 = .ok (.iconst 2, 1) := by decide +kernel
theorem dX3_told_107 : decode cX3_told 107 = .ok (.if_icmp .ne 11, 3) := by decide +kernel
theorem dX3_told_110 : decode cX3_told 110 = .ok (.iload 5, 2) := by decide +kernel
theorem dX3_told_112 : decode cX3_told 112 = .ok (.iload 4, 2) := by decide +kernel
theorem dX3_told_114 : decode cX3_told 114 = .ok (.isub, 1) := by decide +kernel
theorem dX3_told_115 : decode cX3_told 115 = .ok (.goto 29, 3) := by decide +kernel
theorem dX3_told_118 : decode cX3_told 118 = .ok (.iload 6, 2) := by decide +kernel
theorem dX3_told_120 : decode cX3_told 120 = .ok (.iconst (-1), 1) := by decide +kernel
theorem dX3_told_121 : decode cX3_told 121 = .ok (.if_icmp .ne 22, 3) := by decide +kernel
theorem dX3_told_124 : decode cX3_told 124 = .ok (.aload_n 0, 1) := by decide +kernel
theorem dX3_told_125 : decode cX3_told 125 = .ok (.getfield 21, 3) := by decide +kernel
theorem dX3_told_128 : decode cX3_told 128 = .ok (.iload_n 1, 1) := by decide +kernel
theorem dX3_told_129 : decode cX3_told 129 = .ok (.aaload, 1) := by decide +kernel
theorem dX3_told_130 : decode cX3_told 130 = .ok (.iload 4, 2) := by decide +kernel
theorem dX3_told_132 : decode cX3_told 132 = .ok (.iload 5, 2) := by decide +kernel
theorem dX3_told_134 : decode cX3_told 134 = .ok (.iload 4, 2) := by decide +kernel
theorem dX3_told_136 : decode cX3_told 136 = .ok (.isub, 1) := by decide +kernel
theorem dX3_told_137 : decode cX3_told 137 = .ok (.invokestatic 74, 3) := by decide +kernel
theorem dX3_told_140 : decode cX3_told 140 = .ok (.goto 4, 3) := by decide +kernel
theorem dX3_told_143 : decode cX3_told 143 = .ok (.iconst (-1), 1) := by decide +kernel
theorem dX3_told_144 : decode cX3_told 144 = .ok (.ireturn, 1) := by decide +kernel
set_option maxRecDepth 20000 in
theorem ggX3_instruction_X3_isPatch : GoodIn wsX3_instruction wsX3_isPatch := goodIn_r _ [6, 7, 8, 9, 5, 10, 32, 33, 34, 35, 36, 37, 38, 39, 40, 41, 42, 43] (by decide +kernel) (by decide +kernel)
set_option maxRecDepth 20000 in
theorem gX3_instruction_X3_isPatch : GoodIn wsX3_instruction (wsV RX3 93 RX3 yX3_isPatch wsX3_isPatch) := goodIn_app (goodIn_of _ (by decide +kernel)) ggX3_instruction_X3_isPatch
set_option maxRecDepth 20000 in
theorem ggX3_instruction_X3_many : GoodIn wsX3_instruction wsX3_many := goodIn_r _ [14, 15, 16, 17, 18, 5, 19, 32, 33, 34, 35, 36, 37, 38, 39, 40, 41, 42, 43] (by decide +kernel) (by decide +kernel)
set_option maxRecDepth 20000 in
theorem gX3_instruction_X3_many : GoodIn wsX3_instruction (wsV RX3 100 RX3 yX3_many wsX3_many) := goodIn_app (goodIn_of _ (by decide +kernel)) ggX3_instruction_X3_many
set_option maxRecDepth 20000 in
theorem ggX3_instruction_X3_isIn : GoodIn wsX3_instruction wsX3_isIn := goodIn_r _ [10] (by decide +kernel) (by decide +kernel)
set_option maxRecDepth 20000 in
theorem gX3_instruction_X3_isIn : GoodIn wsX3_instruction (va_wsS RX3 40 yX3_isIn wsX3_isIn) := goodIn_app (goodIn_of _ (by decide +kernel)) ggX3_instruction_X3_isIn
set_option maxRecDepth 20000 in
theorem ggX3_instruction_X3_told : GoodIn wsX3_instruction wsX3_told := goodIn_r _ [23, 15, 24, 16, 17, 18, 5, 19, 25, 26, 27, 32, 33, 34, 35, 36, 37, 38, 39, 40, 41, 42, 43] (by decide +kernel) (by decide +kernel)
set_option maxRecDepth 20000 in
theorem gX3_instruction_X3_told : GoodIn wsX3_instruction (wsV RX3 103 RX3 yX3_told wsX3_told) := goodIn_app (goodIn_of _ (by decide +kernel)) ggX3_instruction_X3_told
set_option maxRecDepth 20000 in
theorem ggX3_instruction_X3_fail : GoodIn wsX3_instruction wsX3_fail := goodIn_r _ [31, 1, 32, 33, 34, 35, 36, 37, 38, 39, 40, 41, 42, 43] (by decide +kernel) (by decide +kernel)
set_option maxRecDepth 20000 in
theorem gX3_instruction_X3_fail : GoodIn wsX3_instruction (wsV RX3 47 RX3 yX3_fail wsX3_fail) := goodIn_app (goodIn_of _ (by decide +kernel)) ggX3_instruction_X3_fail
theorem dX3_instruction_0 : decode cX3_instruction 0 = .ok (.aload_n 0, 1) := by decide +kernel
theorem dX3_instruction_1 : decode cX3_instruction 1 = .ok (.iconst 0, 1) := by decide +kernel
theorem dX3_instruction_2 : decode cX3_instruction 2 = .ok (.putfield 33, 3) := by decide +kernel
theorem dX3_instruction_5 : decode cX3_instruction 5 = .ok (.aload_n 0, 1) := by decide +kernel
theorem dX3_instruction_6 : decode cX3_instruction 6 = .ok (.iload_n 1, 1) := by decide +kernel
theorem dX3_instruction_7 : decode cX3_instruction 7 = .ok (.invokevirtual 93, 3) := by decide +kernel
theorem dX3_instruction_10 : decode cX3_instruction 10 = .ok (.ifCond .eq 37, 3) := by decide +kernel
theorem dX3_instruction_13 : decode cX3_instruction 13 = .ok (.iload_n 2, 1) := by decide +kernel
theorem dX3_instruction_14 : decode cX3_instruction 14 = .ok (.iconst 0, 1) := by decide +kernel
theorem dX3_instruction_15 : decode cX3_instruction 15 = .ok (.aload_n 0, 1) := by decide +kernel
theorem dX3_instruction_16 : decode cX3_instruction 16 = .ok (.iload_n 1, 1) := by decide +kernel
theorem dX3_instruction_17 : decode cX3_instruction 17 = .ok (.invokevirtual 100, 3) := by decide +kernel
theorem dX3_instruction_20 : decode cX3_instruction 20 = .ok (.iconst 1, 1) := by decide +kernel
theorem dX3_instruction_21 : decode cX3_instruction 21 = .ok (.isub, 1) := by decide +kernel
theorem dX3_instruction_22 : decode cX3_instruction 22 = .ok (.invokestatic 40, 3) := by decide +kernel
theorem dX3_instruction_25 : decode cX3_instruction 25 = .ok (.ifCond .eq 22, 3) := by decide +kernel
theorem dX3_instruction_28 : decode cX3_instruction 28 = .ok (.iload_n 3, 1) := by decide +kernel
theorem dX3_instruction_29 : decode cX3_instruction 29 = .ok (.iconst 0, 1) := by decide +kernel
theorem dX3_instruction_30 : decode cX3_instruction 30 = .ok (.iconst 3, 1) := by decide +kernel
theorem dX3_instruction_31 : decode cX3_instruction 31 = .ok (.invokestatic 40, 3) := by decide +kernel
theorem dX3_instruction_34 : decode cX3_instruction 34 = .ok (.ifCond .eq 13, 3) := by decide +kernel
theorem dX3_instruction_37 : decode cX3_instruction 37 = .ok (.aload_n 0, 1) := by decide +kernel
theorem dX3_instruction_38 : decode cX3_instruction 38 = .ok (.iload_n 1, 1) := by decide +kernel
theorem dX3_instruction_39 : decode cX3_instruction 39 = .ok (.iload_n 2, 1) := by decide +kernel
theorem dX3_instruction_40 : decode cX3_instruction 40 = .ok (.iload_n 3, 1) := by decide +kernel
theorem dX3_instruction_41 : decode cX3_instruction 41 = .ok (.invokevirtual 103, 3) := by decide +kernel
theorem dX3_instruction_44 : decode cX3_instruction 44 = .ok (.goto 8, 3) := by decide +kernel
theorem dX3_instruction_47 : decode cX3_instruction 47 = .ok (.aload_n 0, 1) := by decide +kernel
theorem dX3_instruction_48 : decode cX3_instruction 48 = .ok (.iconst 1, 1) := by decide +kernel
theorem dX3_instruction_49 : decode cX3_instruction 49 = .ok (.invokevirtual 47, 3) := by decide +kernel
theorem dX3_instruction_52 : decode cX3_instruction 52 = .ok (.ireturn, 1) := by decide +kernel
theorem dX3_literals_0 : decode cX3_literals 0 = .ok (.iconst 0, 1) := by decide +kernel
theorem dX3_literals_1 : decode cX3_literals 1 = .ok (.istore_n 2, 1) := by decide +kernel
theorem dX3_literals_2 : decode cX3_literals 2 = .ok (.aload_n 0, 1) := by decide +kernel
theorem dX3_literals_3 : decode cX3_literals 3 = .ok (.getfield 24, 3) := by decide +kernel
theorem dX3_literals_6 : decode cX3_literals 6 = .ok (.iload_n 1, 1) := by decide +kernel
theorem dX3_literals_7 : decode cX3_literals 7 = .ok (.aaload, 1) := by decide +kernel
theorem dX3_literals_8 : decode cX3_literals 8 = .ok (.astore_n 3, 1) := by decide +kernel
theorem dX3_literals_9 : decode cX3_literals 9 = .ok (.aload_n 3, 1) := by decide +kernel
theorem dX3_literals_10 : decode cX3_literals 10 = .ok (.arraylength, 1) := by decide +kernel
theorem dX3_literals_11 : decode cX3_literals 11 = .ok (.istore 4, 2) := by decide +kernel
theorem dX3_literals_13 : decode cX3_literals 13 = .ok (.iconst 0, 1) := by decide +kernel
theorem dX3_literals_14 : decode cX3_literals 14 = .ok (.istore 5, 2) := by decide +kernel
theorem dX3_literals_16 : decode cX3_literals 16 = .ok (.iload 5, 2) := by decide +kernel
theorem dX3_literals_18 : decode cX3_literals 18 = .ok (.iload 4, 2) := by decide +kernel
theorem dX3_literals_20 : decode cX3_literals 20 = .ok (.if_icmp .ge 29, 3) := by decide +kernel
theorem dX3_literals_23 : decode cX3_literals 23 = .ok (.aload_n 3, 1) := by decide +kernel
theorem dX3_literals_24 : decode cX3_literals 24 = .ok (.iload 5, 2) := by decide +kernel
theorem dX3_literals_26 : decode cX3_literals 26 = .ok (.iaload, 1) := by decide +kernel
theorem dX3_literals_27 : decode cX3_literals 27 = .ok (.istore 6, 2) := by decide +kernel
theorem dX3_literals_29 : decode cX3_literals 29 = .ok (.iload_n 2, 1) := by decide +kernel
theorem dX3_literals_30 : decode cX3_literals 30 = .ok (.iload 6, 2) := by decide +kernel
theorem dX3_literals_32 : decode cX3_literals 32 = .ok (.iconst (-1), 1) := by decide +kernel
theorem dX3_literals_33 : decode cX3_literals 33 = .ok (.if_icmp .ne 7, 3) := by decide +kernel
theorem dX3_literals_36 : decode cX3_literals 36 = .ok (.iconst 1, 1) := by decide +kernel
theorem dX3_literals_37 : decode cX3_literals 37 = .ok (.goto 4, 3) := by decide +kernel
theorem dX3_literals_40 : decode cX3_literals 40 = .ok (.iconst 0, 1) := by decide +kernel
theorem dX3_literals_41 : decode cX3_literals 41 = .ok (.iadd, 1) := by decide +kernel
theorem dX3_literals_42 : decode cX3_literals 42 = .ok (.istore_n 2, 1) := by decide +kernel
theorem dX3_literals_43 : decode cX3_literals 43 = .ok (.iinc 5 1, 3) := by decide +kernel
theorem dX3_literals_46 : decode cX3_literals 46 = .ok (.goto (-30), 3) := by decide +kernel
theorem dX3_literals_49 : decode cX3_literals 49 = .ok (.iload_n 2, 1) := by decide +kernel
theorem dX3_literals_50 : decode cX3_literals 50 = .ok (.ireturn, 1) := by decide +kernel
set_option maxRecDepth 20000 in
theorem ggX3_costOf_X3_literals : GoodIn wsX3_costOf wsX3_literals := goodIn_r _ [6, 1, 11, 12, 13, 14, 15, 16, 17, 18, 19, 20, 21, 22] (by decide +kernel) (by decide +kernel)
set_option maxRecDepth 20000 in
theorem gX3_costOf_X3_literals : GoodIn wsX3_costOf (wsV RX3 107 RX3 yX3_literals wsX3_literals) := goodIn_app (goodIn_of _ (by decide +kernel)) ggX3_costOf_X3_literals
set_option maxRecDepth 20000 in
theorem ggX3_costOf_X3_begins : GoodIn wsX3_costOf wsX3_begins := goodIn_r _ [10, 1, 11, 12, 13, 14, 15, 16, 17, 18, 19, 20, 21, 22] (by decide +kernel) (by decide +kernel)
set_option maxRecDepth 20000 in
theorem gX3_costOf_X3_begins : GoodIn wsX3_costOf (wsV RX3 96 RX3 yX3_begins wsX3_begins) := goodIn_app (goodIn_of _ (by decide +kernel)) ggX3_costOf_X3_begins
theorem dX3_costOf_0 : decode cX3_costOf 0 = .ok (.aload_n 0, 1) := by decide +kernel
theorem dX3_costOf_1 : decode cX3_costOf 1 = .ok (.iload_n 1, 1) := by decide +kernel
theorem dX3_costOf_2 : decode cX3_costOf 2 = .ok (.invokevirtual 107, 3) := by decide +kernel
theorem dX3_costOf_5 : decode cX3_costOf 5 = .ok (.istore_n 2, 1) := by decide +kernel
theorem dX3_costOf_6 : decode cX3_costOf 6 = .ok (.iconst 0, 1) := by decide +kernel
theorem dX3_costOf_7 : decode cX3_costOf 7 = .ok (.istore_n 3, 1) := by decide +kernel
theorem dX3_costOf_8 : decode cX3_costOf 8 = .ok (.iload_n 3, 1) := by decide +kernel
theorem dX3_costOf_9 : decode cX3_costOf 9 = .ok (.aload_n 0, 1) := by decide +kernel
theorem dX3_costOf_10 : decode cX3_costOf 10 = .ok (.getfield 24, 3) := by decide +kernel
theorem dX3_costOf_13 : decode cX3_costOf 13 = .ok (.iload_n 1, 1) := by decide +kernel
theorem dX3_costOf_14 : decode cX3_costOf 14 = .ok (.aaload, 1) := by decide +kernel
theorem dX3_costOf_15 : decode cX3_costOf 15 = .ok (.arraylength, 1) := by decide +kernel
theorem dX3_costOf_16 : decode cX3_costOf 16 = .ok (.if_icmp .ge 38, 3) := by decide +kernel
theorem dX3_costOf_19 : decode cX3_costOf 19 = .ok (.aload_n 0, 1) := by decide +kernel
theorem dX3_costOf_20 : decode cX3_costOf 20 = .ok (.iload_n 1, 1) := by decide +kernel
theorem dX3_costOf_21 : decode cX3_costOf 21 = .ok (.iload_n 3, 1) := by decide +kernel
theorem dX3_costOf_22 : decode cX3_costOf 22 = .ok (.invokevirtual 96, 3) := by decide +kernel
theorem dX3_costOf_25 : decode cX3_costOf 25 = .ok (.ifCond .eq 23, 3) := by decide +kernel
theorem dX3_costOf_28 : decode cX3_costOf 28 = .ok (.iload_n 2, 1) := by decide +kernel
theorem dX3_costOf_29 : decode cX3_costOf 29 = .ok (.aload_n 0, 1) := by decide +kernel
theorem dX3_costOf_30 : decode cX3_costOf 30 = .ok (.getfield 24, 3) := by decide +kernel
theorem dX3_costOf_33 : decode cX3_costOf 33 = .ok (.iload_n 1, 1) := by decide +kernel
theorem dX3_costOf_34 : decode cX3_costOf 34 = .ok (.aaload, 1) := by decide +kernel
theorem dX3_costOf_35 : decode cX3_costOf 35 = .ok (.iload_n 3, 1) := by decide +kernel
theorem dX3_costOf_36 : decode cX3_costOf 36 = .ok (.iaload, 1) := by decide +kernel
theorem dX3_costOf_37 : decode cX3_costOf 37 = .ok (.iconst (-1), 1) := by decide +kernel
theorem dX3_costOf_38 : decode cX3_costOf 38 = .ok (.if_icmp .ne 7, 3) := by decide +kernel
theorem dX3_costOf_41 : decode cX3_costOf 41 = .ok (.iconst 2, 1) := by decide +kernel
theorem dX3_costOf_42 : decode cX3_costOf 42 = .ok (.goto 4, 3) := by decide +kernel
theorem dX3_costOf_45 : decode cX3_costOf 45 = .ok (.iconst 5, 1) := by decide +kernel
theorem dX3_costOf_46 : decode cX3_costOf 46 = .ok (.iadd, 1) := by decide +kernel
theorem dX3_costOf_47 : decode cX3_costOf 47 = .ok (.istore_n 2, 1) := by decide +kernel
theorem dX3_costOf_48 : decode cX3_costOf 48 = .ok (.iinc 3 1, 3) := by decide +kernel
theorem dX3_costOf_51 : decode cX3_costOf 51 = .ok (.goto (-43), 3) := by decide +kernel
theorem dX3_costOf_54 : decode cX3_costOf 54 = .ok (.iload_n 2, 1) := by decide +kernel
theorem dX3_costOf_55 : decode cX3_costOf 55 = .ok (.ireturn, 1) := by decide +kernel
set_option maxRecDepth 20000 in
theorem ggX3_cost_X3_isPatch : GoodIn wsX3_cost wsX3_isPatch := goodIn_r _ [6, 7, 8, 9, 5, 10, 28, 29, 30, 31, 32, 33, 34, 35, 36, 37, 38, 39] (by decide +kernel) (by decide +kernel)
set_option maxRecDepth 20000 in
theorem gX3_cost_X3_isPatch : GoodIn wsX3_cost (wsV RX3 93 RX3 yX3_isPatch wsX3_isPatch) := goodIn_app (goodIn_of _ (by decide +kernel)) ggX3_cost_X3_isPatch
set_option maxRecDepth 20000 in
theorem ggX3_cost_X3_costOf : GoodIn wsX3_cost wsX3_costOf := goodIn_r _ [14, 15, 16, 17, 18, 5, 19, 20, 21, 22, 23, 28, 29, 30, 31, 32, 33, 34, 35, 36, 37, 38, 39] (by decide +kernel) (by decide +kernel)
set_option maxRecDepth 20000 in
theorem gX3_cost_X3_costOf : GoodIn wsX3_cost (wsV RX3 110 RX3 yX3_costOf wsX3_costOf) := goodIn_app (goodIn_of _ (by decide +kernel)) ggX3_cost_X3_costOf
set_option maxRecDepth 20000 in
theorem ggX3_cost_X3_fail : GoodIn wsX3_cost wsX3_fail := goodIn_r _ [27, 1, 28, 29, 30, 31, 32, 33, 34, 35, 36, 37, 38, 39] (by decide +kernel) (by decide +kernel)
set_option maxRecDepth 20000 in
theorem gX3_cost_X3_fail : GoodIn wsX3_cost (wsV RX3 47 RX3 yX3_fail wsX3_fail) := goodIn_app (goodIn_of _ (by decide +kernel)) ggX3_cost_X3_fail
theorem dX3_cost_0 : decode cX3_cost 0 = .ok (.aload_n 0, 1) := by decide +kernel
theorem dX3_cost_1 : decode cX3_cost 1 = .ok (.iconst 0, 1) := by decide +kernel
theorem dX3_cost_2 : decode cX3_cost 2 = .ok (.putfield 33, 3) := by decide +kernel
theorem dX3_cost_5 : decode cX3_cost 5 = .ok (.aload_n 0, 1) := by decide +kernel
theorem dX3_cost_6 : decode cX3_cost 6 = .ok (.iload_n 1, 1) := by decide +kernel
theorem dX3_cost_7 : decode cX3_cost 7 = .ok (.invokevirtual 93, 3) := by decide +kernel
theorem dX3_cost_10 : decode cX3_cost 10 = .ok (.ifCond .eq 11, 3) := by decide +kernel
theorem dX3_cost_13 : decode cX3_cost 13 = .ok (.aload_n 0, 1) := by decide +kernel
theorem dX3_cost_14 : decode cX3_cost 14 = .ok (.iload_n 1, 1) := by decide +kernel
theorem dX3_cost_15 : decode cX3_cost 15 = .ok (.invokevirtual 110, 3) := by decide +kernel
theorem dX3_cost_18 : decode cX3_cost 18 = .ok (.goto 8, 3) := by decide +kernel
theorem dX3_cost_21 : decode cX3_cost 21 = .ok (.aload_n 0, 1) := by decide +kernel
theorem dX3_cost_22 : decode cX3_cost 22 = .ok (.iconst 1, 1) := by decide +kernel
theorem dX3_cost_23 : decode cX3_cost 23 = .ok (.invokevirtual 47, 3) := by decide +kernel
theorem dX3_cost_26 : decode cX3_cost 26 = .ok (.ireturn, 1) := by decide +kernel
set_option maxRecDepth 20000 in
theorem ggX3_newness_X3_isPatch : GoodIn wsX3_newness wsX3_isPatch := goodIn_r _ [7, 8, 9, 10, 6, 11, 17, 18, 19, 20, 21, 22, 23, 24, 25, 26, 27, 28] (by decide +kernel) (by decide +kernel)
set_option maxRecDepth 20000 in
theorem gX3_newness_X3_isPatch : GoodIn wsX3_newness (wsV RX3 93 RX3 yX3_isPatch wsX3_isPatch) := goodIn_app (goodIn_of _ (by decide +kernel)) ggX3_newness_X3_isPatch
set_option maxRecDepth 20000 in
theorem ggX3_newness_X3_literals : GoodIn wsX3_newness wsX3_literals := goodIn_r _ [15, 16, 17, 18, 19, 20, 21, 22, 23, 24, 25, 26, 27, 28] (by decide +kernel) (by decide +kernel)
set_option maxRecDepth 20000 in
theorem gX3_newness_X3_literals : GoodIn wsX3_newness (wsV RX3 107 RX3 yX3_literals wsX3_literals) := goodIn_app (goodIn_of _ (by decide +kernel)) ggX3_newness_X3_literals
theorem dX3_newness_0 : decode cX3_newness 0 = .ok (.aload_n 0, 1) := by decide +kernel
theorem dX3_newness_1 : decode cX3_newness 1 = .ok (.aload_n 0, 1) := by decide +kernel
theorem dX3_newness_2 : decode cX3_newness 2 = .ok (.iload_n 1, 1) := by decide +kernel
theorem dX3_newness_3 : decode cX3_newness 3 = .ok (.invokevirtual 93, 3) := by decide +kernel
theorem dX3_newness_6 : decode cX3_newness 6 = .ok (.ifCond .eq 7, 3) := by decide +kernel
theorem dX3_newness_9 : decode cX3_newness 9 = .ok (.iconst 0, 1) := by decide +kernel
theorem dX3_newness_10 : decode cX3_newness 10 = .ok (.goto 4, 3) := by decide +kernel
theorem dX3_newness_13 : decode cX3_newness 13 = .ok (.iconst 1, 1) := by decide +kernel
theorem dX3_newness_14 : decode cX3_newness 14 = .ok (.putfield 33, 3) := by decide +kernel
theorem dX3_newness_17 : decode cX3_newness 17 = .ok (.aload_n 0, 1) := by decide +kernel
theorem dX3_newness_18 : decode cX3_newness 18 = .ok (.getfield 33, 3) := by decide +kernel
theorem dX3_newness_21 : decode cX3_newness 21 = .ok (.ifCond .ne 13, 3) := by decide +kernel
theorem dX3_newness_24 : decode cX3_newness 24 = .ok (.aload_n 0, 1) := by decide +kernel
theorem dX3_newness_25 : decode cX3_newness 25 = .ok (.getfield 21, 3) := by decide +kernel
theorem dX3_newness_28 : decode cX3_newness 28 = .ok (.iload_n 1, 1) := by decide +kernel
theorem dX3_newness_29 : decode cX3_newness 29 = .ok (.aaload, 1) := by decide +kernel
theorem dX3_newness_30 : decode cX3_newness 30 = .ok (.arraylength, 1) := by decide +kernel
theorem dX3_newness_31 : decode cX3_newness 31 = .ok (.ifCond .ne 5, 3) := by decide +kernel
theorem dX3_newness_34 : decode cX3_newness 34 = .ok (.dconst 0, 1) := by decide +kernel
theorem dX3_newness_35 : decode cX3_newness 35 = .ok (.dreturn, 1) := by decide +kernel
theorem dX3_newness_36 : decode cX3_newness 36 = .ok (.aload_n 0, 1) := by decide +kernel
theorem dX3_newness_37 : decode cX3_newness 37 = .ok (.iload_n 1, 1) := by decide +kernel
theorem dX3_newness_38 : decode cX3_newness 38 = .ok (.invokevirtual 107, 3) := by decide +kernel
theorem dX3_newness_41 : decode cX3_newness 41 = .ok (.i2d, 1) := by decide +kernel
theorem dX3_newness_42 : decode cX3_newness 42 = .ok (.aload_n 0, 1) := by decide +kernel
theorem dX3_newness_43 : decode cX3_newness 43 = .ok (.getfield 21, 3) := by decide +kernel
theorem dX3_newness_46 : decode cX3_newness 46 = .ok (.iload_n 1, 1) := by decide +kernel
theorem dX3_newness_47 : decode cX3_newness 47 = .ok (.aaload, 1) := by decide +kernel
theorem dX3_newness_48 : decode cX3_newness 48 = .ok (.arraylength, 1) := by decide +kernel
theorem dX3_newness_49 : decode cX3_newness 49 = .ok (.i2d, 1) := by decide +kernel
theorem dX3_newness_50 : decode cX3_newness 50 = .ok (.ddiv, 1) := by decide +kernel
theorem dX3_newness_51 : decode cX3_newness 51 = .ok (.dreturn, 1) := by decide +kernel
set_option maxRecDepth 20000 in
theorem ggX3_apply_X3_isPatch : GoodIn wsX3_apply wsX3_isPatch := goodIn_r _ [10, 11, 12, 13, 9, 14, 30, 31, 32, 33, 34, 35, 36, 37, 38, 39, 40, 41] (by decide +kernel) (by decide +kernel)
set_option maxRecDepth 20000 in
theorem gX3_apply_X3_isPatch : GoodIn wsX3_apply (wsV RX3 93 RX3 yX3_isPatch wsX3_isPatch) := goodIn_app (goodIn_of _ (by decide +kernel)) ggX3_apply_X3_isPatch
set_option maxRecDepth 20000 in
theorem ggX3_apply_X3_isVersion : GoodIn wsX3_apply wsX3_isVersion := goodIn_r _ [18, 4, 12, 13, 9, 14, 30, 31, 32, 33, 34, 35, 36, 37, 38, 39, 40, 41] (by decide +kernel) (by decide +kernel)
set_option maxRecDepth 20000 in
theorem gX3_apply_X3_isVersion : GoodIn wsX3_apply (wsV RX3 66 RX3 yX3_isVersion wsX3_isVersion) := goodIn_app (goodIn_of _ (by decide +kernel)) ggX3_apply_X3_isVersion
set_option maxRecDepth 20000 in
theorem ggX3_apply_X3_fail : GoodIn wsX3_apply wsX3_fail := goodIn_r _ [22, 1, 30, 31, 32, 33, 34, 35, 36, 37, 38, 39, 40, 41] (by decide +kernel) (by decide +kernel)
set_option maxRecDepth 20000 in
theorem gX3_apply_X3_fail : GoodIn wsX3_apply (wsV RX3 47 RX3 yX3_fail wsX3_fail) := goodIn_app (goodIn_of _ (by decide +kernel)) ggX3_apply_X3_fail
set_option maxRecDepth 20000 in
theorem ggX3_apply_X3_are : GoodIn wsX3_apply wsX3_are := goodIn_r _ [25] (by decide +kernel) (by decide +kernel)
set_option maxRecDepth 20000 in
theorem gX3_apply_X3_are : GoodIn wsX3_apply (va_wsS RX3 70 yX3_are wsX3_are) := goodIn_app (goodIn_of _ (by decide +kernel)) ggX3_apply_X3_are
set_option maxRecDepth 20000 in
theorem ggX3_apply_X3_keep : GoodIn wsX3_apply wsX3_keep := goodIn_r _ [29, 2, 4, 30, 31, 32, 33, 34, 35, 36, 37, 38, 39, 40, 41] (by decide +kernel) (by decide +kernel)
set_option maxRecDepth 20000 in
theorem gX3_apply_X3_keep : GoodIn wsX3_apply (wsV RX3 62 RX3 yX3_keep wsX3_keep) := goodIn_app (goodIn_of _ (by decide +kernel)) ggX3_apply_X3_keep
theorem dX3_apply_0 : decode cX3_apply 0 = .ok (.aload_n 0, 1) := by decide +kernel
theorem dX3_apply_1 : decode cX3_apply 1 = .ok (.iconst 0, 1) := by decide +kernel
theorem dX3_apply_2 : decode cX3_apply 2 = .ok (.putfield 33, 3) := by decide +kernel
theorem dX3_apply_5 : decode cX3_apply 5 = .ok (.aload_n 0, 1) := by decide +kernel
theorem dX3_apply_6 : decode cX3_apply 6 = .ok (.iload_n 1, 1) := by decide +kernel
theorem dX3_apply_7 : decode cX3_apply 7 = .ok (.invokevirtual 93, 3) := by decide +kernel
theorem dX3_apply_10 : decode cX3_apply 10 = .ok (.ifCond .eq 11, 3) := by decide +kernel
theorem dX3_apply_13 : decode cX3_apply 13 = .ok (.aload_n 0, 1) := by decide +kernel
theorem dX3_apply_14 : decode cX3_apply 14 = .ok (.iload_n 2, 1) := by decide +kernel
theorem dX3_apply_15 : decode cX3_apply 15 = .ok (.invokevirtual 66, 3) := by decide +kernel
theorem dX3_apply_18 : decode cX3_apply 18 = .ok (.ifCond .ne 9, 3) := by decide +kernel
theorem dX3_apply_21 : decode cX3_apply 21 = .ok (.aload_n 0, 1) := by decide +kernel
theorem dX3_apply_22 : decode cX3_apply 22 = .ok (.iconst 1, 1) := by decide +kernel
theorem dX3_apply_23 : decode cX3_apply 23 = .ok (.invokevirtual 47, 3) := by decide +kernel
theorem dX3_apply_26 : decode cX3_apply 26 = .ok (.ireturn, 1) := by decide +kernel
theorem dX3_apply_27 : decode cX3_apply 27 = .ok (.aload_n 0, 1) := by decide +kernel
theorem dX3_apply_28 : decode cX3_apply 28 = .ok (.getfield 14, 3) := by decide +kernel
theorem dX3_apply_31 : decode cX3_apply 31 = .ok (.iload_n 2, 1) := by decide +kernel
theorem dX3_apply_32 : decode cX3_apply 32 = .ok (.aaload, 1) := by decide +kernel
theorem dX3_apply_33 : decode cX3_apply 33 = .ok (.aload_n 0, 1) := by decide +kernel
theorem dX3_apply_34 : decode cX3_apply 34 = .ok (.getfield 18, 3) := by decide +kernel
theorem dX3_apply_37 : decode cX3_apply 37 = .ok (.iload_n 1, 1) := by decide +kernel
theorem dX3_apply_38 : decode cX3_apply 38 = .ok (.aaload, 1) := by decide +kernel
theorem dX3_apply_39 : decode cX3_apply 39 = .ok (.invokestatic 70, 3) := by decide +kernel
theorem dX3_apply_42 : decode cX3_apply 42 = .ok (.ifCond .ne 9, 3) := by decide +kernel
theorem dX3_apply_45 : decode cX3_apply 45 = .ok (.aload_n 0, 1) := by decide +kernel
theorem dX3_apply_46 : decode cX3_apply 46 = .ok (.iconst 2, 1) := by decide +kernel
theorem dX3_apply_47 : decode cX3_apply 47 = .ok (.invokevirtual 47, 3) := by decide +kernel
theorem dX3_apply_50 : decode cX3_apply 50 = .ok (.ireturn, 1) := by decide +kernel
theorem dX3_apply_51 : decode cX3_apply 51 = .ok (.aload_n 0, 1) := by decide +kernel
theorem dX3_apply_52 : decode cX3_apply 52 = .ok (.getfield 37, 3) := by decide +kernel
theorem dX3_apply_55 : decode cX3_apply 55 = .ok (.bipush 12, 2) := by decide +kernel
theorem dX3_apply_57 : decode cX3_apply 57 = .ok (.if_icmp .ne 11, 3) := by decide +kernel
theorem dX3_apply_60 : decode cX3_apply 60 = .ok (.aload_n 0, 1) := by decide +kernel
theorem dX3_apply_61 : decode cX3_apply 61 = .ok (.iconst 3, 1) := by decide +kernel
theorem dX3_apply_62 : decode cX3_apply 62 = .ok (.invokevirtual 47, 3) := by decide +kernel
theorem dX3_apply_65 : decode cX3_apply 65 = .ok (.goto 13, 3) := by decide +kernel
theorem dX3_apply_68 : decode cX3_apply 68 = .ok (.aload_n 0, 1) := by decide +kernel
theorem dX3_apply_69 : decode cX3_apply 69 = .ok (.aload_n 0, 1) := by decide +kernel
theorem dX3_apply_70 : decode cX3_apply 70 = .ok (.getfield 21, 3) := by decide +kernel
theorem dX3_apply_73 : decode cX3_apply 73 = .ok (.iload_n 1, 1) := by decide +kernel
theorem dX3_apply_74 : decode cX3_apply 74 = .ok (.aaload, 1) := by decide +kernel
theorem dX3_apply_75 : decode cX3_apply 75 = .ok (.invokevirtual 62, 3) := by decide +kernel
theorem dX3_apply_78 : decode cX3_apply 78 = .ok (.ireturn, 1) := by decide +kernel
set_option maxRecDepth 20000 in
theorem ggX3_lead_X3_are : GoodIn wsX3_lead wsX3_are := goodIn_r _ [8] (by decide +kernel) (by decide +kernel)
set_option maxRecDepth 20000 in
theorem gX3_lead_X3_are : GoodIn wsX3_lead (va_wsS RX3 70 yX3_are wsX3_are) := goodIn_app (goodIn_of _ (by decide +kernel)) ggX3_lead_X3_are
set_option maxRecDepth 20000 in
theorem ggX3_lead_X3_costOf : GoodIn wsX3_lead wsX3_costOf := goodIn_r _ [12, 13, 14, 15, 16, 7, 17, 18, 19, 20, 21, 22, 23, 24, 25, 26, 27, 28, 29, 30, 31, 32, 33] (by decide +kernel) (by decide +kernel)
set_option maxRecDepth 20000 in
theorem gX3_lead_X3_costOf : GoodIn wsX3_lead (wsV RX3 110 RX3 yX3_costOf wsX3_costOf) := goodIn_app (goodIn_of _ (by decide +kernel)) ggX3_lead_X3_costOf
theorem dX3_lead_0 : decode cX3_lead 0 = .ok (.aload_n 1, 1) := by decide +kernel
theorem dX3_lead_1 : decode cX3_lead 1 = .ok (.aload_n 2, 1) := by decide +kernel
theorem dX3_lead_2 : decode cX3_lead 2 = .ok (.invokestatic 70, 3) := by decide +kernel
theorem dX3_lead_5 : decode cX3_lead 5 = .ok (.ifCond .eq 5, 3) := by decide +kernel
theorem dX3_lead_8 : decode cX3_lead 8 = .ok (.iconst 0, 1) := by decide +kernel
theorem dX3_lead_9 : decode cX3_lead 9 = .ok (.ireturn, 1) := by decide +kernel
theorem dX3_lead_10 : decode cX3_lead 10 = .ok (.aload_n 0, 1) := by decide +kernel
theorem dX3_lead_11 : decode cX3_lead 11 = .ok (.getfield 44, 3) := by decide +kernel
theorem dX3_lead_14 : decode cX3_lead 14 = .ok (.newarray .int, 2) := by decide +kernel
theorem dX3_lead_16 : decode cX3_lead 16 = .ok (.astore 4, 2) := by decide +kernel
theorem dX3_lead_18 : decode cX3_lead 18 = .ok (.iconst 0, 1) := by decide +kernel
theorem dX3_lead_19 : decode cX3_lead 19 = .ok (.istore 5, 2) := by decide +kernel
theorem dX3_lead_21 : decode cX3_lead 21 = .ok (.iload 5, 2) := by decide +kernel
theorem dX3_lead_23 : decode cX3_lead 23 = .ok (.aload_n 0, 1) := by decide +kernel
theorem dX3_lead_24 : decode cX3_lead 24 = .ok (.getfield 44, 3) := by decide +kernel
theorem dX3_lead_27 : decode cX3_lead 27 = .ok (.if_icmp .ge 15, 3) := by decide +kernel
theorem dX3_lead_30 : decode cX3_lead 30 = .ok (.aload 4, 2) := by decide +kernel
theorem dX3_lead_32 : decode cX3_lead 32 = .ok (.iload 5, 2) := by decide +kernel
theorem dX3_lead_34 : decode cX3_lead 34 = .ok (.iconst (-1), 1) := by decide +kernel
theorem dX3_lead_35 : decode cX3_lead 35 = .ok (.iastore, 1) := by decide +kernel
theorem dX3_lead_36 : decode cX3_lead 36 = .ok (.iinc 5 1, 3) := by decide +kernel
theorem dX3_lead_39 : decode cX3_lead 39 = .ok (.goto (-18), 3) := by decide +kernel
theorem dX3_lead_42 : decode cX3_lead 42 = .ok (.iconst 0, 1) := by decide +kernel
theorem dX3_lead_43 : decode cX3_lead 43 = .ok (.istore 5, 2) := by decide +kernel
theorem dX3_lead_45 : decode cX3_lead 45 = .ok (.iload 5, 2) := by decide +kernel
theorem dX3_lead_47 : decode cX3_lead 47 = .ok (.aload_n 0, 1) := by decide +kernel
theorem dX3_lead_48 : decode cX3_lead 48 = .ok (.getfield 44, 3) := by decide +kernel
theorem dX3_lead_51 : decode cX3_lead 51 = .ok (.if_icmp .ge 177, 3) := by decide +kernel
theorem dX3_lead_54 : decode cX3_lead 54 = .ok (.iconst 0, 1) := by decide +kernel
theorem dX3_lead_55 : decode cX3_lead 55 = .ok (.istore 6, 2) := by decide +kernel
theorem dX3_lead_57 : decode cX3_lead 57 = .ok (.iload 6, 2) := by decide +kernel
theorem dX3_lead_59 : decode cX3_lead 59 = .ok (.aload_n 0, 1) := by decide +kernel
theorem dX3_lead_60 : decode cX3_lead 60 = .ok (.getfield 44, 3) := by decide +kernel
theorem dX3_lead_63 : decode cX3_lead 63 = .ok (.if_icmp .ge 159, 3) := by decide +kernel
theorem dX3_lead_66 : decode cX3_lead 66 = .ok (.aload_n 1, 1) := by decide +kernel
theorem dX3_lead_67 : decode cX3_lead 67 = .ok (.aload_n 0, 1) := by decide +kernel
theorem dX3_lead_68 : decode cX3_lead 68 = .ok (.getfield 18, 3) := by decide +kernel
theorem dX3_lead_71 : decode cX3_lead 71 = .ok (.iload 6, 2) := by decide +kernel
theorem dX3_lead_73 : decode cX3_lead 73 = .ok (.aaload, 1) := by decide +kernel
theorem dX3_lead_74 : decode cX3_lead 74 = .ok (.invokestatic 70, 3) := by decide +kernel
theorem dX3_lead_77 : decode cX3_lead 77 = .ok (.ifCond .eq 7, 3) := by decide +kernel
theorem dX3_lead_80 : decode cX3_lead 80 = .ok (.iconst 0, 1) := by decide +kernel
theorem dX3_lead_81 : decode cX3_lead 81 = .ok (.goto 4, 3) := by decide +kernel
theorem dX3_lead_84 : decode cX3_lead 84 = .ok (.iconst (-1), 1) := by decide +kernel
theorem dX3_lead_85 : decode cX3_lead 85 = .ok (.istore 7, 2) := by decide +kernel
theorem dX3_lead_87 : decode cX3_lead 87 = .ok (.iconst 0, 1) := by decide +kernel
theorem dX3_lead_88 : decode cX3_lead 88 = .ok (.istore 8, 2) := by decide +kernel
theorem dX3_lead_90 : decode cX3_lead 90 = .ok (.iload 8, 2) := by decide +kernel
theorem dX3_lead_92 : decode cX3_lead 92 = .ok (.aload_n 0, 1) := by decide +kernel
theorem dX3_lead_93 : decode cX3_lead 93 = .ok (.getfield 44, 3) := by decide +kernel
theorem dX3_lead_96 : decode cX3_lead 96 = .ok (.if_icmp .ge 66, 3) := by decide +kernel
theorem dX3_lead_99 : decode cX3_lead 99 = .ok (.iload 7, 2) := by decide +kernel
theorem dX3_lead_101 : decode cX3_lead 101 = .ok (.ifCond .eq 61, 3) := by decide +kernel
theorem dX3_lead_104 : decode cX3_lead 104 = .ok (.aload 4, 2) := by decide +kernel
theorem dX3_lead_106 : decode cX3_lead 106 = .ok (.iload 8, 2) := by decide +kernel
theorem dX3_lead_108 : decode cX3_lead 108 = .ok (.iaload, 1) := by decide +kernel
theorem dX3_lead_109 : decode cX3_lead 109 = .ok (.iconst (-1), 1) := by decide +kernel
theorem dX3_lead_110 : decode cX3_lead 110 = .ok (.if_icmp .eq 46, 3) := by decide +kernel
theorem dX3_lead_113 : decode cX3_lead 113 = .ok (.iload 7, 2) := by decide +kernel
theorem dX3_lead_115 : decode cX3_lead 115 = .ok (.iconst (-1), 1) := by decide +kernel
theorem dX3_lead_116 : decode cX3_lead 116 = .ok (.if_icmp .eq 13, 3) := by decide +kernel
theorem dX3_lead_119 : decode cX3_lead 119 = .ok (.aload 4, 2) := by decide +kernel
theorem dX3_lead_121 : decode cX3_lead 121 = .ok (.iload 8, 2) := by decide +kernel
theorem dX3_lead_123 : decode cX3_lead 123 = .ok (.iaload, 1) := by decide +kernel
theorem dX3_lead_124 : decode cX3_lead 124 = .ok (.iload 7, 2) := by decide +kernel
theorem dX3_lead_126 : decode cX3_lead 126 = .ok (.if_icmp .ge 30, 3) := by decide +kernel
theorem dX3_lead_129 : decode cX3_lead 129 = .ok (.aload_n 0, 1) := by decide +kernel
theorem dX3_lead_130 : decode cX3_lead 130 = .ok (.getfield 21, 3) := by decide +kernel
theorem dX3_lead_133 : decode cX3_lead 133 = .ok (.iload 8, 2) := by decide +kernel
theorem dX3_lead_135 : decode cX3_lead 135 = .ok (.aaload, 1) := by decide +kernel
theorem dX3_lead_136 : decode cX3_lead 136 = .ok (.aload_n 0, 1) := by decide +kernel
theorem dX3_lead_137 : decode cX3_lead 137 = .ok (.getfield 18, 3) := by decide +kernel
theorem dX3_lead_140 : decode cX3_lead 140 = .ok (.iload 6, 2) := by decide +kernel
theorem dX3_lead_142 : decode cX3_lead 142 = .ok (.aaload, 1) := by decide +kernel
theorem dX3_lead_143 : decode cX3_lead 143 = .ok (.invokestatic 70, 3) := by decide +kernel
theorem dX3_lead_146 : decode cX3_lead 146 = .ok (.ifCond .eq 10, 3) := by decide +kernel
theorem dX3_lead_149 : decode cX3_lead 149 = .ok (.aload 4, 2) := by decide +kernel
theorem dX3_lead_151 : decode cX3_lead 151 = .ok (.iload 8, 2) := by decide +kernel
theorem dX3_lead_153 : decode cX3_lead 153 = .ok (.iaload, 1) := by decide +kernel
theorem dX3_lead_154 : decode cX3_lead 154 = .ok (.istore 7, 2) := by decide +kernel
theorem dX3_lead_156 : decode cX3_lead 156 = .ok (.iinc 8 1, 3) := by decide +kernel
theorem dX3_lead_159 : decode cX3_lead 159 = .ok (.goto (-69), 3) := by decide +kernel
theorem dX3_lead_162 : decode cX3_lead 162 = .ok (.iload 7, 2) := by decide +kernel
theorem dX3_lead_164 : decode cX3_lead 164 = .ok (.iconst (-1), 1) := by decide +kernel
theorem dX3_lead_165 : decode cX3_lead 165 = .ok (.if_icmp .ne 6, 3) := by decide +kernel
theorem dX3_lead_168 : decode cX3_lead 168 = .ok (.goto 48, 3) := by decide +kernel
theorem dX3_lead_171 : decode cX3_lead 171 = .ok (.iload 7, 2) := by decide +kernel
theorem dX3_lead_173 : decode cX3_lead 173 = .ok (.iload_n 3, 1) := by decide +kernel
theorem dX3_lead_174 : decode cX3_lead 174 = .ok (.ifCond .eq 12, 3) := by decide +kernel
theorem dX3_lead_177 : decode cX3_lead 177 = .ok (.aload_n 0, 1) := by decide +kernel
theorem dX3_lead_178 : decode cX3_lead 178 = .ok (.iload 6, 2) := by decide +kernel
theorem dX3_lead_180 : decode cX3_lead 180 = .ok (.invokevirtual 110, 3) := by decide +kernel
theorem dX3_lead_183 : decode cX3_lead 183 = .ok (.goto 4, 3) := by decide +kernel
theorem dX3_lead_186 : decode cX3_lead 186 = .ok (.iconst 1, 1) := by decide +kernel
theorem dX3_lead_187 : decode cX3_lead 187 = .ok (.iadd, 1) := by decide +kernel
theorem dX3_lead_188 : decode cX3_lead 188 = .ok (.istore 8, 2) := by decide +kernel
theorem dX3_lead_190 : decode cX3_lead 190 = .ok (.aload 4, 2) := by decide +kernel
theorem dX3_lead_192 : decode cX3_lead 192 = .ok (.iload 6, 2) := by decide +kernel
theorem dX3_lead_194 : decode cX3_lead 194 = .ok (.iaload, 1) := by decide +kernel
theorem dX3_lead_195 : decode cX3_lead 195 = .ok (.iconst (-1), 1) := by decide +kernel
theorem dX3_lead_196 : decode cX3_lead 196 = .ok (.if_icmp .eq 13, 3) := by decide +kernel
theorem dX3_lead_199 : decode cX3_lead 199 = .ok (.iload 8, 2) := by decide +kernel
theorem dX3_lead_201 : decode cX3_lead 201 = .ok (.aload 4, 2) := by decide +kernel
theorem dX3_lead_203 : decode cX3_lead 203 = .ok (.iload 6, 2) := by decide +kernel
theorem dX3_lead_205 : decode cX3_lead 205 = .ok (.iaload, 1) := by decide +kernel
theorem dX3_lead_206 : decode cX3_lead 206 = .ok (.if_icmp .ge 10, 3) := by decide +kernel
theorem dX3_lead_209 : decode cX3_lead 209 = .ok (.aload 4, 2) := by decide +kernel
theorem dX3_lead_211 : decode cX3_lead 211 = .ok (.iload 6, 2) := by decide +kernel
theorem dX3_lead_213 : decode cX3_lead 213 = .ok (.iload 8, 2) := by decide +kernel
theorem dX3_lead_215 : decode cX3_lead 215 = .ok (.iastore, 1) := by decide +kernel
theorem dX3_lead_216 : decode cX3_lead 216 = .ok (.iinc 6 1, 3) := by decide +kernel
theorem dX3_lead_219 : decode cX3_lead 219 = .ok (.goto (-162), 3) := by decide +kernel
theorem dX3_lead_222 : decode cX3_lead 222 = .ok (.iinc 5 1, 3) := by decide +kernel
theorem dX3_lead_225 : decode cX3_lead 225 = .ok (.goto (-180), 3) := by decide +kernel
theorem dX3_lead_228 : decode cX3_lead 228 = .ok (.iconst (-1), 1) := by decide +kernel
theorem dX3_lead_229 : decode cX3_lead 229 = .ok (.istore 5, 2) := by decide +kernel
theorem dX3_lead_231 : decode cX3_lead 231 = .ok (.iconst 0, 1) := by decide +kernel
theorem dX3_lead_232 : decode cX3_lead 232 = .ok (.istore 6, 2) := by decide +kernel
theorem dX3_lead_234 : decode cX3_lead 234 = .ok (.iload 6, 2) := by decide +kernel
theorem dX3_lead_236 : decode cX3_lead 236 = .ok (.aload_n 0, 1) := by decide +kernel
theorem dX3_lead_237 : decode cX3_lead 237 = .ok (.getfield 44, 3) := by decide +kernel
theorem dX3_lead_240 : decode cX3_lead 240 = .ok (.if_icmp .ge 55, 3) := by decide +kernel
theorem dX3_lead_243 : decode cX3_lead 243 = .ok (.aload 4, 2) := by decide +kernel
theorem dX3_lead_245 : decode cX3_lead 245 = .ok (.iload 6, 2) := by decide +kernel
theorem dX3_lead_247 : decode cX3_lead 247 = .ok (.iaload, 1) := by decide +kernel
theorem dX3_lead_248 : decode cX3_lead 248 = .ok (.iconst (-1), 1) := by decide +kernel
theorem dX3_lead_249 : decode cX3_lead 249 = .ok (.if_icmp .eq 40, 3) := by decide +kernel
theorem dX3_lead_252 : decode cX3_lead 252 = .ok (.iload 5, 2) := by decide +kernel
theorem dX3_lead_254 : decode cX3_lead 254 = .ok (.iconst (-1), 1) := by decide +kernel
theorem dX3_lead_255 : decode cX3_lead 255 = .ok (.if_icmp .eq 13, 3) := by decide +kernel
theorem dX3_lead_258 : decode cX3_lead 258 = .ok (.aload 4, 2) := by decide +kernel
theorem dX3_lead_260 : decode cX3_lead 260 = .ok (.iload 6, 2) := by decide +kernel
theorem dX3_lead_262 : decode cX3_lead 262 = .ok (.iaload, 1) := by decide +kernel
theorem dX3_lead_263 : decode cX3_lead 263 = .ok (.iload 5, 2) := by decide +kernel
theorem dX3_lead_265 : decode cX3_lead 265 = .ok (.if_icmp .ge 24, 3) := by decide +kernel
theorem dX3_lead_268 : decode cX3_lead 268 = .ok (.aload_n 0, 1) := by decide +kernel
theorem dX3_lead_269 : decode cX3_lead 269 = .ok (.getfield 21, 3) := by decide +kernel
theorem dX3_lead_272 : decode cX3_lead 272 = .ok (.iload 6, 2) := by decide +kernel
theorem dX3_lead_274 : decode cX3_lead 274 = .ok (.aaload, 1) := by decide +kernel
theorem dX3_lead_275 : decode cX3_lead 275 = .ok (.aload_n 2, 1) := by decide +kernel
theorem dX3_lead_276 : decode cX3_lead 276 = .ok (.invokestatic 70, 3) := by decide +kernel
theorem dX3_lead_279 : decode cX3_lead 279 = .ok (.ifCond .eq 10, 3) := by decide +kernel
theorem dX3_lead_282 : decode cX3_lead 282 = .ok (.aload 4, 2) := by decide +kernel
theorem dX3_lead_284 : decode cX3_lead 284 = .ok (.iload 6, 2) := by decide +kernel
theorem dX3_lead_286 : decode cX3_lead 286 = .ok (.iaload, 1) := by decide +kernel
theorem dX3_lead_287 : decode cX3_lead 287 = .ok (.istore 5, 2) := by decide +kernel
theorem dX3_lead_289 : decode cX3_lead 289 = .ok (.iinc 6 1, 3) := by decide +kernel
theorem dX3_lead_292 : decode cX3_lead 292 = .ok (.goto (-58), 3) := by decide +kernel
theorem dX3_lead_295 : decode cX3_lead 295 = .ok (.iload 5, 2) := by decide +kernel
theorem dX3_lead_297 : decode cX3_lead 297 = .ok (.ireturn, 1) := by decide +kernel
set_option maxRecDepth 20000 in
theorem ggX3_steps_X3_isVersion : GoodIn wsX3_steps wsX3_isVersion := goodIn_r _ [7, 8, 9, 10, 6, 11, 40, 41, 42, 43, 44, 45, 46, 47, 48, 49, 50, 51] (by decide +kernel) (by decide +kernel)
set_option maxRecDepth 20000 in
theorem gX3_steps_X3_isVersion : GoodIn wsX3_steps (wsV RX3 66 RX3 yX3_isVersion wsX3_isVersion) := goodIn_app (goodIn_of _ (by decide +kernel)) ggX3_steps_X3_isVersion
set_option maxRecDepth 20000 in
theorem ggX3_steps_X3_lead : GoodIn wsX3_steps wsX3_lead := goodIn_r _ [15, 16, 17, 18, 19, 20, 21, 6, 22, 23, 24, 25, 26, 27, 28, 29, 30, 31, 32, 33, 34, 35, 40, 41, 42, 43, 44, 45, 46, 47, 48, 49, 50, 51] (by decide +kernel) (by decide +kernel)
set_option maxRecDepth 20000 in
theorem gX3_steps_X3_lead : GoodIn wsX3_steps (wsV RX3 113 RX3 yX3_lead wsX3_lead) := goodIn_app (goodIn_of _ (by decide +kernel)) ggX3_steps_X3_lead
set_option maxRecDepth 20000 in
theorem ggX3_steps_X3_fail : GoodIn wsX3_steps wsX3_fail := goodIn_r _ [39, 1, 40, 41, 42, 43, 44, 45, 46, 47, 48, 49, 50, 51] (by decide +kernel) (by decide +kernel)
set_option maxRecDepth 20000 in
theorem gX3_steps_X3_fail : GoodIn wsX3_steps (wsV RX3 47 RX3 yX3_fail wsX3_fail) := goodIn_app (goodIn_of _ (by decide +kernel)) ggX3_steps_X3_fail
theorem dX3_steps_0 : decode cX3_steps 0 = .ok (.aload_n 0, 1) := by decide +kernel
theorem dX3_steps_1 : decode cX3_steps 1 = .ok (.iconst 0, 1) := by decide +kernel
theorem dX3_steps_2 : decode cX3_steps 2 = .ok (.putfield 33, 3) := by decide +kernel
theorem dX3_steps_5 : decode cX3_steps 5 = .ok (.aload_n 0, 1) := by decide +kernel
theorem dX3_steps_6 : decode cX3_steps 6 = .ok (.iload_n 1, 1) := by decide +kernel
theorem dX3_steps_7 : decode cX3_steps 7 = .ok (.invokevirtual 66, 3) := by decide +kernel
theorem dX3_steps_10 : decode cX3_steps 10 = .ok (.ifCond .eq 31, 3) := by decide +kernel
theorem dX3_steps_13 : decode cX3_steps 13 = .ok (.aload_n 0, 1) := by decide +kernel
theorem dX3_steps_14 : decode cX3_steps 14 = .ok (.iload_n 2, 1) := by decide +kernel
theorem dX3_steps_15 : decode cX3_steps 15 = .ok (.invokevirtual 66, 3) := by decide +kernel
theorem dX3_steps_18 : decode cX3_steps 18 = .ok (.ifCond .eq 23, 3) := by decide +kernel
theorem dX3_steps_21 : decode cX3_steps 21 = .ok (.aload_n 0, 1) := by decide +kernel
theorem dX3_steps_22 : decode cX3_steps 22 = .ok (.aload_n 0, 1) := by decide +kernel
theorem dX3_steps_23 : decode cX3_steps 23 = .ok (.getfield 14, 3) := by decide +kernel
theorem dX3_steps_26 : decode cX3_steps 26 = .ok (.iload_n 1, 1) := by decide +kernel
theorem dX3_steps_27 : decode cX3_steps 27 = .ok (.aaload, 1) := by decide +kernel
theorem dX3_steps_28 : decode cX3_steps 28 = .ok (.aload_n 0, 1) := by decide +kernel
theorem dX3_steps_29 : decode cX3_steps 29 = .ok (.getfield 14, 3) := by decide +kernel
theorem dX3_steps_32 : decode cX3_steps 32 = .ok (.iload_n 2, 1) := by decide +kernel
theorem dX3_steps_33 : decode cX3_steps 33 = .ok (.aaload, 1) := by decide +kernel
theorem dX3_steps_34 : decode cX3_steps 34 = .ok (.iconst 0, 1) := by decide +kernel
theorem dX3_steps_35 : decode cX3_steps 35 = .ok (.invokevirtual 113, 3) := by decide +kernel
theorem dX3_steps_38 : decode cX3_steps 38 = .ok (.goto 8, 3) := by decide +kernel
theorem dX3_steps_41 : decode cX3_steps 41 = .ok (.aload_n 0, 1) := by decide +kernel
theorem dX3_steps_42 : decode cX3_steps 42 = .ok (.iconst 1, 1) := by decide +kernel
theorem dX3_steps_43 : decode cX3_steps 43 = .ok (.invokevirtual 47, 3) := by decide +kernel
theorem dX3_steps_46 : decode cX3_steps 46 = .ok (.ireturn, 1) := by decide +kernel
set_option maxRecDepth 20000 in
theorem ggX3_leastCost_X3_isVersion : GoodIn wsX3_leastCost wsX3_isVersion := goodIn_r _ [7, 8, 9, 10, 6, 11, 40, 41, 42, 43, 44, 45, 46, 47, 48, 49, 50, 51] (by decide +kernel) (by decide +kernel)
set_option maxRecDepth 20000 in
theorem gX3_leastCost_X3_isVersion : GoodIn wsX3_leastCost (wsV RX3 66 RX3 yX3_isVersion wsX3_isVersion) := goodIn_app (goodIn_of _ (by decide +kernel)) ggX3_leastCost_X3_isVersion
set_option maxRecDepth 20000 in
theorem ggX3_leastCost_X3_lead : GoodIn wsX3_leastCost wsX3_lead := goodIn_r _ [15, 16, 17, 18, 19, 20, 21, 6, 22, 23, 24, 25, 26, 27, 28, 29, 30, 31, 32, 33, 34, 35, 40, 41, 42, 43, 44, 45, 46, 47, 48, 49, 50, 51] (by decide +kernel) (by decide +kernel)
set_option maxRecDepth 20000 in
theorem gX3_leastCost_X3_lead : GoodIn wsX3_leastCost (wsV RX3 113 RX3 yX3_lead wsX3_lead) := goodIn_app (goodIn_of _ (by decide +kernel)) ggX3_leastCost_X3_lead
set_option maxRecDepth 20000 in
theorem ggX3_leastCost_X3_fail : GoodIn wsX3_leastCost wsX3_fail := goodIn_r _ [39, 1, 40, 41, 42, 43, 44, 45, 46, 47, 48, 49, 50, 51] (by decide +kernel) (by decide +kernel)
set_option maxRecDepth 20000 in
theorem gX3_leastCost_X3_fail : GoodIn wsX3_leastCost (wsV RX3 47 RX3 yX3_fail wsX3_fail) := goodIn_app (goodIn_of _ (by decide +kernel)) ggX3_leastCost_X3_fail
theorem dX3_leastCost_0 : decode cX3_leastCost 0 = .ok (.aload_n 0, 1) := by decide +kernel
theorem dX3_leastCost_1 : decode cX3_leastCost 1 = .ok (.iconst 0, 1) := by decide +kernel
theorem dX3_leastCost_2 : decode cX3_leastCost 2 = .ok (.putfield 33, 3) := by decide +kernel
theorem dX3_leastCost_5 : decode cX3_leastCost 5 = .ok (.aload_n 0, 1) := by decide +kernel
theorem dX3_leastCost_6 : decode cX3_leastCost 6 = .ok (.iload_n 1, 1) := by decide +kernel
theorem dX3_leastCost_7 : decode cX3_leastCost 7 = .ok (.invokevirtual 66, 3) := by decide +kernel
theorem dX3_leastCost_10 : decode cX3_leastCost 10 = .ok (.ifCond .eq 31, 3) := by decide +kernel
theorem dX3_leastCost_13 : decode cX3_leastCost 13 = .ok (.aload_n 0, 1) := by decide +kernel
theorem dX3_leastCost_14 : decode cX3_leastCost 14 = .ok (.iload_n 2, 1) := by decide +kernel
theorem dX3_leastCost_15 : decode cX3_leastCost 15 = .ok (.invokevirtual 66, 3) := by decide +kernel
theorem dX3_leastCost_18 : decode cX3_leastCost 18 = .ok (.ifCond .eq 23, 3) := by decide +kernel
theorem dX3_leastCost_21 : decode cX3_leastCost 21 = .ok (.aload_n 0, 1) := by decide +kernel
theorem dX3_leastCost_22 : decode cX3_leastCost 22 = .ok (.aload_n 0, 1) := by decide +kernel
theorem dX3_leastCost_23 : decode cX3_leastCost 23 = .ok (.getfield 14, 3) := by decide +kernel
theorem dX3_leastCost_26 : decode cX3_leastCost 26 = .ok (.iload_n 1, 1) := by decide +kernel
theorem dX3_leastCost_27 : decode cX3_leastCost 27 = .ok (.aaload, 1) := by decide +kernel
theorem dX3_leastCost_28 : decode cX3_leastCost 28 = .ok (.aload_n 0, 1) := by decide +kernel
theorem dX3_leastCost_29 : decode cX3_leastCost 29 = .ok (.getfield 14, 3) := by decide +kernel
theorem dX3_leastCost_32 : decode cX3_leastCost 32 = .ok (.iload_n 2, 1) := by decide +kernel
theorem dX3_leastCost_33 : decode cX3_leastCost 33 = .ok (.aaload, 1) := by decide +kernel
theorem dX3_leastCost_34 : decode cX3_leastCost 34 = .ok (.iconst 1, 1) := by decide +kernel
theorem dX3_leastCost_35 : decode cX3_leastCost 35 = .ok (.invokevirtual 113, 3) := by decide +kernel
theorem dX3_leastCost_38 : decode cX3_leastCost 38 = .ok (.goto 8, 3) := by decide +kernel
theorem dX3_leastCost_41 : decode cX3_leastCost 41 = .ok (.aload_n 0, 1) := by decide +kernel
theorem dX3_leastCost_42 : decode cX3_leastCost 42 = .ok (.iconst 1, 1) := by decide +kernel
theorem dX3_leastCost_43 : decode cX3_leastCost 43 = .ok (.invokevirtual 47, 3) := by decide +kernel
theorem dX3_leastCost_46 : decode cX3_leastCost 46 = .ok (.ireturn, 1) := by decide +kernel
theorem dX3_install_0 : decode cX3_install 0 = .ok (.aload_n 0, 1) := by decide +kernel
theorem dX3_install_1 : decode cX3_install 1 = .ok (.getfield 117, 3) := by decide +kernel
theorem dX3_install_4 : decode cX3_install 4 = .ok (.bipush 20, 2) := by decide +kernel
theorem dX3_install_6 : decode cX3_install 6 = .ok (.if_icmp .ne 41, 3) := by decide +kernel
theorem dX3_install_9 : decode cX3_install 9 = .ok (.iconst 1, 1) := by decide +kernel
theorem dX3_install_10 : decode cX3_install 10 = .ok (.istore_n 2, 1) := by decide +kernel
theorem dX3_install_11 : decode cX3_install 11 = .ok (.iload_n 2, 1) := by decide +kernel
theorem dX3_install_12 : decode cX3_install 12 = .ok (.bipush 20, 2) := by decide +kernel
theorem dX3_install_14 : decode cX3_install 14 = .ok (.if_icmp .ge 23, 3) := by decide +kernel
theorem dX3_install_17 : decode cX3_install 17 = .ok (.aload_n 0, 1) := by decide +kernel
theorem dX3_install_18 : decode cX3_install 18 = .ok (.getfield 30, 3) := by decide +kernel
theorem dX3_install_21 : decode cX3_install 21 = .ok (.iload_n 2, 1) := by decide +kernel
theorem dX3_install_22 : decode cX3_install 22 = .ok (.iconst 1, 1) := by decide +kernel
theorem dX3_install_23 : decode cX3_install 23 = .ok (.isub, 1) := by decide +kernel
theorem dX3_install_24 : decode cX3_install 24 = .ok (.aload_n 0, 1) := by decide +kernel
theorem dX3_install_25 : decode cX3_install 25 = .ok (.getfield 30, 3) := by decide +kernel
theorem dX3_install_28 : decode cX3_install 28 = .ok (.iload_n 2, 1) := by decide +kernel
theorem dX3_install_29 : decode cX3_install 29 = .ok (.aaload, 1) := by decide +kernel
theorem dX3_install_30 : decode cX3_install 30 = .ok (.aastore, 1) := by decide +kernel
theorem dX3_install_31 : decode cX3_install 31 = .ok (.iinc 2 1, 3) := by decide +kernel
theorem dX3_install_34 : decode cX3_install 34 = .ok (.goto (-23), 3) := by decide +kernel
theorem dX3_install_37 : decode cX3_install 37 = .ok (.aload_n 0, 1) := by decide +kernel
theorem dX3_install_38 : decode cX3_install 38 = .ok (.dup, 1) := by decide +kernel
theorem dX3_install_39 : decode cX3_install 39 = .ok (.getfield 117, 3) := by decide +kernel
theorem dX3_install_42 : decode cX3_install 42 = .ok (.iconst 1, 1) := by decide +kernel
theorem dX3_install_43 : decode cX3_install 43 = .ok (.isub, 1) := by decide +kernel
theorem dX3_install_44 : decode cX3_install 44 = .ok (.putfield 117, 3) := by decide +kernel
theorem dX3_install_47 : decode cX3_install 47 = .ok (.aload_n 0, 1) := by decide +kernel
theorem dX3_install_48 : decode cX3_install 48 = .ok (.getfield 30, 3) := by decide +kernel
theorem dX3_install_51 : decode cX3_install 51 = .ok (.aload_n 0, 1) := by decide +kernel
theorem dX3_install_52 : decode cX3_install 52 = .ok (.getfield 117, 3) := by decide +kernel
theorem dX3_install_55 : decode cX3_install 55 = .ok (.aload_n 0, 1) := by decide +kernel
theorem dX3_install_56 : decode cX3_install 56 = .ok (.getfield 27, 3) := by decide +kernel
theorem dX3_install_59 : decode cX3_install 59 = .ok (.aastore, 1) := by decide +kernel
theorem dX3_install_60 : decode cX3_install 60 = .ok (.aload_n 0, 1) := by decide +kernel
theorem dX3_install_61 : decode cX3_install 61 = .ok (.dup, 1) := by decide +kernel
theorem dX3_install_62 : decode cX3_install 62 = .ok (.getfield 117, 3) := by decide +kernel
theorem dX3_install_65 : decode cX3_install 65 = .ok (.iconst 1, 1) := by decide +kernel
theorem dX3_install_66 : decode cX3_install 66 = .ok (.iadd, 1) := by decide +kernel
theorem dX3_install_67 : decode cX3_install 67 = .ok (.putfield 117, 3) := by decide +kernel
theorem dX3_install_70 : decode cX3_install 70 = .ok (.aload_n 0, 1) := by decide +kernel
theorem dX3_install_71 : decode cX3_install 71 = .ok (.aload_n 1, 1) := by decide +kernel
theorem dX3_install_72 : decode cX3_install 72 = .ok (.putfield 27, 3) := by decide +kernel
theorem dX3_install_75 : decode cX3_install 75 = .ok (.aload_n 0, 1) := by decide +kernel
theorem dX3_install_76 : decode cX3_install 76 = .ok (.getfield 117, 3) := by decide +kernel
theorem dX3_install_79 : decode cX3_install 79 = .ok (.ireturn, 1) := by decide +kernel
set_option maxRecDepth 20000 in
theorem ggX3_installVersion_X3_isVersion : GoodIn wsX3_installVersion wsX3_isVersion := goodIn_r _ [7, 8, 9, 10, 6, 11, 23, 24, 25, 26, 27, 28, 29, 30, 31, 32, 33, 34] (by decide +kernel) (by decide +kernel)
set_option maxRecDepth 20000 in
theorem gX3_installVersion_X3_isVersion : GoodIn wsX3_installVersion (wsV RX3 66 RX3 yX3_isVersion wsX3_isVersion) := goodIn_app (goodIn_of _ (by decide +kernel)) ggX3_installVersion_X3_isVersion
set_option maxRecDepth 20000 in
theorem ggX3_installVersion_X3_install : GoodIn wsX3_installVersion wsX3_install := goodIn_r _ [15, 16, 17, 18, 23, 24, 25, 26, 27, 28, 29, 30, 31, 32, 33, 34] (by decide +kernel) (by decide +kernel)
set_option maxRecDepth 20000 in
theorem gX3_installVersion_X3_install : GoodIn wsX3_installVersion (wsV RX3 120 RX3 yX3_install wsX3_install) := goodIn_app (goodIn_of _ (by decide +kernel)) ggX3_installVersion_X3_install
set_option maxRecDepth 20000 in
theorem ggX3_installVersion_X3_fail : GoodIn wsX3_installVersion wsX3_fail := goodIn_r _ [22, 1, 23, 24, 25, 26, 27, 28, 29, 30, 31, 32, 33, 34] (by decide +kernel) (by decide +kernel)
set_option maxRecDepth 20000 in
theorem gX3_installVersion_X3_fail : GoodIn wsX3_installVersion (wsV RX3 47 RX3 yX3_fail wsX3_fail) := goodIn_app (goodIn_of _ (by decide +kernel)) ggX3_installVersion_X3_fail
theorem dX3_installVersion_0 : decode cX3_installVersion 0 = .ok (.aload_n 0, 1) := by decide +kernel
theorem dX3_installVersion_1 : decode cX3_installVersion 1 = .ok (.iconst 0, 1) := by decide +kernel
theorem dX3_installVersion_2 : decode cX3_installVersion 2 = .ok (.putfield 33, 3) := by decide +kernel
theorem dX3_installVersion_5 : decode cX3_installVersion 5 = .ok (.aload_n 0, 1) := by decide +kernel
theorem dX3_installVersion_6 : decode cX3_installVersion 6 = .ok (.iload_n 1, 1) := by decide +kernel
theorem dX3_installVersion_7 : decode cX3_installVersion 7 = .ok (.invokevirtual 66, 3) := by decide +kernel
theorem dX3_installVersion_10 : decode cX3_installVersion 10 = .ok (.ifCond .eq 16, 3) := by decide +kernel
theorem dX3_installVersion_13 : decode cX3_installVersion 13 = .ok (.aload_n 0, 1) := by decide +kernel
theorem dX3_installVersion_14 : decode cX3_installVersion 14 = .ok (.aload_n 0, 1) := by decide +kernel
theorem dX3_installVersion_15 : decode cX3_installVersion 15 = .ok (.getfield 14, 3) := by decide +kernel
theorem dX3_installVersion_18 : decode cX3_installVersion 18 = .ok (.iload_n 1, 1) := by decide +kernel
theorem dX3_installVersion_19 : decode cX3_installVersion 19 = .ok (.aaload, 1) := by decide +kernel
theorem dX3_installVersion_20 : decode cX3_installVersion 20 = .ok (.invokevirtual 120, 3) := by decide +kernel
theorem dX3_installVersion_23 : decode cX3_installVersion 23 = .ok (.goto 8, 3) := by decide +kernel
theorem dX3_installVersion_26 : decode cX3_installVersion 26 = .ok (.aload_n 0, 1) := by decide +kernel
theorem dX3_installVersion_27 : decode cX3_installVersion 27 = .ok (.iconst 1, 1) := by decide +kernel
theorem dX3_installVersion_28 : decode cX3_installVersion 28 = .ok (.invokevirtual 47, 3) := by decide +kernel
theorem dX3_installVersion_31 : decode cX3_installVersion 31 = .ok (.ireturn, 1) := by decide +kernel
set_option maxRecDepth 20000 in
theorem ggX3_installPatch_X3_isPatch : GoodIn wsX3_installPatch wsX3_isPatch := goodIn_r _ [9, 10, 11, 12, 8, 13, 27, 28, 29, 30, 31, 32, 33, 34, 35, 36, 37, 38] (by decide +kernel) (by decide +kernel)
set_option maxRecDepth 20000 in
theorem gX3_installPatch_X3_isPatch : GoodIn wsX3_installPatch (wsV RX3 93 RX3 yX3_isPatch wsX3_isPatch) := goodIn_app (goodIn_of _ (by decide +kernel)) ggX3_installPatch_X3_isPatch
set_option maxRecDepth 20000 in
theorem ggX3_installPatch_X3_fail : GoodIn wsX3_installPatch wsX3_fail := goodIn_r _ [17, 1, 27, 28, 29, 30, 31, 32, 33, 34, 35, 36, 37, 38] (by decide +kernel) (by decide +kernel)
set_option maxRecDepth 20000 in
theorem gX3_installPatch_X3_fail : GoodIn wsX3_installPatch (wsV RX3 47 RX3 yX3_fail wsX3_fail) := goodIn_app (goodIn_of _ (by decide +kernel)) ggX3_installPatch_X3_fail
set_option maxRecDepth 20000 in
theorem ggX3_installPatch_X3_are : GoodIn wsX3_installPatch wsX3_are := goodIn_r _ [20] (by decide +kernel) (by decide +kernel)
set_option maxRecDepth 20000 in
theorem gX3_installPatch_X3_are : GoodIn wsX3_installPatch (va_wsS RX3 70 yX3_are wsX3_are) := goodIn_app (goodIn_of _ (by decide +kernel)) ggX3_installPatch_X3_are
set_option maxRecDepth 20000 in
theorem ggX3_installPatch_X3_install : GoodIn wsX3_installPatch wsX3_install := goodIn_r _ [24, 25, 26, 2, 27, 28, 29, 30, 31, 32, 33, 34, 35, 36, 37, 38] (by decide +kernel) (by decide +kernel)
set_option maxRecDepth 20000 in
theorem gX3_installPatch_X3_install : GoodIn wsX3_installPatch (wsV RX3 120 RX3 yX3_install wsX3_install) := goodIn_app (goodIn_of _ (by decide +kernel)) ggX3_installPatch_X3_install
theorem dX3_installPatch_0 : decode cX3_installPatch 0 = .ok (.aload_n 0, 1) := by decide +kernel
theorem dX3_installPatch_1 : decode cX3_installPatch 1 = .ok (.iconst 0, 1) := by decide +kernel
theorem dX3_installPatch_2 : decode cX3_installPatch 2 = .ok (.putfield 33, 3) := by decide +kernel
theorem dX3_installPatch_5 : decode cX3_installPatch 5 = .ok (.aload_n 0, 1) := by decide +kernel
theorem dX3_installPatch_6 : decode cX3_installPatch 6 = .ok (.iload_n 1, 1) := by decide +kernel
theorem dX3_installPatch_7 : decode cX3_installPatch 7 = .ok (.invokevirtual 93, 3) := by decide +kernel
theorem dX3_installPatch_10 : decode cX3_installPatch 10 = .ok (.ifCond .ne 9, 3) := by decide +kernel
theorem dX3_installPatch_13 : decode cX3_installPatch 13 = .ok (.aload_n 0, 1) := by decide +kernel
theorem dX3_installPatch_14 : decode cX3_installPatch 14 = .ok (.iconst 1, 1) := by decide +kernel
theorem dX3_installPatch_15 : decode cX3_installPatch 15 = .ok (.invokevirtual 47, 3) := by decide +kernel
theorem dX3_installPatch_18 : decode cX3_installPatch 18 = .ok (.ireturn, 1) := by decide +kernel
theorem dX3_installPatch_19 : decode cX3_installPatch 19 = .ok (.aload_n 0, 1) := by decide +kernel
theorem dX3_installPatch_20 : decode cX3_installPatch 20 = .ok (.getfield 27, 3) := by decide +kernel
theorem dX3_installPatch_23 : decode cX3_installPatch 23 = .ok (.aload_n 0, 1) := by decide +kernel
theorem dX3_installPatch_24 : decode cX3_installPatch 24 = .ok (.getfield 18, 3) := by decide +kernel
theorem dX3_installPatch_27 : decode cX3_installPatch 27 = .ok (.iload_n 1, 1) := by decide +kernel
theorem dX3_installPatch_28 : decode cX3_installPatch 28 = .ok (.aaload, 1) := by decide +kernel
theorem dX3_installPatch_29 : decode cX3_installPatch 29 = .ok (.invokestatic 70, 3) := by decide +kernel
theorem dX3_installPatch_32 : decode cX3_installPatch 32 = .ok (.ifCond .eq 16, 3) := by decide +kernel
theorem dX3_installPatch_35 : decode cX3_installPatch 35 = .ok (.aload_n 0, 1) := by decide +kernel
theorem dX3_installPatch_36 : decode cX3_installPatch 36 = .ok (.aload_n 0, 1) := by decide +kernel
theorem dX3_installPatch_37 : decode cX3_installPatch 37 = .ok (.getfield 21, 3) := by decide +kernel
theorem dX3_installPatch_40 : decode cX3_installPatch 40 = .ok (.iload_n 1, 1) := by decide +kernel
theorem dX3_installPatch_41 : decode cX3_installPatch 41 = .ok (.aaload, 1) := by decide +kernel
theorem dX3_installPatch_42 : decode cX3_installPatch 42 = .ok (.invokevirtual 120, 3) := by decide +kernel
theorem dX3_installPatch_45 : decode cX3_installPatch 45 = .ok (.goto 8, 3) := by decide +kernel
theorem dX3_installPatch_48 : decode cX3_installPatch 48 = .ok (.aload_n 0, 1) := by decide +kernel
theorem dX3_installPatch_49 : decode cX3_installPatch 49 = .ok (.iconst 2, 1) := by decide +kernel
theorem dX3_installPatch_50 : decode cX3_installPatch 50 = .ok (.invokevirtual 47, 3) := by decide +kernel
theorem dX3_installPatch_53 : decode cX3_installPatch 53 = .ok (.ireturn, 1) := by decide +kernel
set_option maxRecDepth 20000 in
theorem ggX3_rollBack_X3_fail : GoodIn wsX3_rollBack wsX3_fail := goodIn_r _ [9, 1, 10, 11, 12, 13, 14, 15, 16, 17, 18, 19, 20, 21] (by decide +kernel) (by decide +kernel)
set_option maxRecDepth 20000 in
theorem gX3_rollBack_X3_fail : GoodIn wsX3_rollBack (wsV RX3 47 RX3 yX3_fail wsX3_fail) := goodIn_app (goodIn_of _ (by decide +kernel)) ggX3_rollBack_X3_fail
theorem dX3_rollBack_0 : decode cX3_rollBack 0 = .ok (.aload_n 0, 1) := by decide +kernel
theorem dX3_rollBack_1 : decode cX3_rollBack 1 = .ok (.iconst 0, 1) := by decide +kernel
theorem dX3_rollBack_2 : decode cX3_rollBack 2 = .ok (.putfield 33, 3) := by decide +kernel
theorem dX3_rollBack_5 : decode cX3_rollBack 5 = .ok (.aload_n 0, 1) := by decide +kernel
theorem dX3_rollBack_6 : decode cX3_rollBack 6 = .ok (.getfield 117, 3) := by decide +kernel
theorem dX3_rollBack_9 : decode cX3_rollBack 9 = .ok (.ifCond .ne 9, 3) := by decide +kernel
theorem dX3_rollBack_12 : decode cX3_rollBack 12 = .ok (.aload_n 0, 1) := by decide +kernel
theorem dX3_rollBack_13 : decode cX3_rollBack 13 = .ok (.iconst 1, 1) := by decide +kernel
theorem dX3_rollBack_14 : decode cX3_rollBack 14 = .ok (.invokevirtual 47, 3) := by decide +kernel
theorem dX3_rollBack_17 : decode cX3_rollBack 17 = .ok (.ireturn, 1) := by decide +kernel
theorem dX3_rollBack_18 : decode cX3_rollBack 18 = .ok (.aload_n 0, 1) := by decide +kernel
theorem dX3_rollBack_19 : decode cX3_rollBack 19 = .ok (.dup, 1) := by decide +kernel
theorem dX3_rollBack_20 : decode cX3_rollBack 20 = .ok (.getfield 117, 3) := by decide +kernel
theorem dX3_rollBack_23 : decode cX3_rollBack 23 = .ok (.iconst 1, 1) := by decide +kernel
theorem dX3_rollBack_24 : decode cX3_rollBack 24 = .ok (.isub, 1) := by decide +kernel
theorem dX3_rollBack_25 : decode cX3_rollBack 25 = .ok (.putfield 117, 3) := by decide +kernel
theorem dX3_rollBack_28 : decode cX3_rollBack 28 = .ok (.aload_n 0, 1) := by decide +kernel
theorem dX3_rollBack_29 : decode cX3_rollBack 29 = .ok (.aload_n 0, 1) := by decide +kernel
theorem dX3_rollBack_30 : decode cX3_rollBack 30 = .ok (.getfield 30, 3) := by decide +kernel
theorem dX3_rollBack_33 : decode cX3_rollBack 33 = .ok (.aload_n 0, 1) := by decide +kernel
theorem dX3_rollBack_34 : decode cX3_rollBack 34 = .ok (.getfield 117, 3) := by decide +kernel
theorem dX3_rollBack_37 : decode cX3_rollBack 37 = .ok (.aaload, 1) := by decide +kernel
theorem dX3_rollBack_38 : decode cX3_rollBack 38 = .ok (.putfield 27, 3) := by decide +kernel
theorem dX3_rollBack_41 : decode cX3_rollBack 41 = .ok (.aload_n 0, 1) := by decide +kernel
theorem dX3_rollBack_42 : decode cX3_rollBack 42 = .ok (.getfield 117, 3) := by decide +kernel
theorem dX3_rollBack_45 : decode cX3_rollBack 45 = .ok (.ireturn, 1) := by decide +kernel
set_option maxRecDepth 20000 in
theorem ggX3_isInstalled_X3_isVersion : GoodIn wsX3_isInstalled wsX3_isVersion := goodIn_r _ [8, 9, 10, 11, 7, 12, 16, 17, 18, 19, 20, 21, 22, 23, 24, 25, 26, 27] (by decide +kernel) (by decide +kernel)
set_option maxRecDepth 20000 in
theorem gX3_isInstalled_X3_isVersion : GoodIn wsX3_isInstalled (wsV RX3 66 RX3 yX3_isVersion wsX3_isVersion) := goodIn_app (goodIn_of _ (by decide +kernel)) ggX3_isInstalled_X3_isVersion
set_option maxRecDepth 20000 in
theorem ggX3_isInstalled_X3_are : GoodIn wsX3_isInstalled wsX3_are := goodIn_r _ [15] (by decide +kernel) (by decide +kernel)
set_option maxRecDepth 20000 in
theorem gX3_isInstalled_X3_are : GoodIn wsX3_isInstalled (va_wsS RX3 70 yX3_are wsX3_are) := goodIn_app (goodIn_of _ (by decide +kernel)) ggX3_isInstalled_X3_are
theorem dX3_isInstalled_0 : decode cX3_isInstalled 0 = .ok (.aload_n 0, 1) := by decide +kernel
theorem dX3_isInstalled_1 : decode cX3_isInstalled 1 = .ok (.aload_n 0, 1) := by decide +kernel
theorem dX3_isInstalled_2 : decode cX3_isInstalled 2 = .ok (.iload_n 1, 1) := by decide +kernel
theorem dX3_isInstalled_3 : decode cX3_isInstalled 3 = .ok (.invokevirtual 66, 3) := by decide +kernel
theorem dX3_isInstalled_6 : decode cX3_isInstalled 6 = .ok (.ifCond .eq 7, 3) := by decide +kernel
theorem dX3_isInstalled_9 : decode cX3_isInstalled 9 = .ok (.iconst 0, 1) := by decide +kernel
theorem dX3_isInstalled_10 : decode cX3_isInstalled 10 = .ok (.goto 4, 3) := by decide +kernel
theorem dX3_isInstalled_13 : decode cX3_isInstalled 13 = .ok (.iconst 1, 1) := by decide +kernel
theorem dX3_isInstalled_14 : decode cX3_isInstalled 14 = .ok (.putfield 33, 3) := by decide +kernel
theorem dX3_isInstalled_17 : decode cX3_isInstalled 17 = .ok (.aload_n 0, 1) := by decide +kernel
theorem dX3_isInstalled_18 : decode cX3_isInstalled 18 = .ok (.getfield 33, 3) := by decide +kernel
theorem dX3_isInstalled_21 : decode cX3_isInstalled 21 = .ok (.ifCond .ne 23, 3) := by decide +kernel
theorem dX3_isInstalled_24 : decode cX3_isInstalled 24 = .ok (.aload_n 0, 1) := by decide +kernel
theorem dX3_isInstalled_25 : decode cX3_isInstalled 25 = .ok (.getfield 27, 3) := by decide +kernel
theorem dX3_isInstalled_28 : decode cX3_isInstalled 28 = .ok (.aload_n 0, 1) := by decide +kernel
theorem dX3_isInstalled_29 : decode cX3_isInstalled 29 = .ok (.getfield 14, 3) := by decide +kernel
theorem dX3_isInstalled_32 : decode cX3_isInstalled 32 = .ok (.iload_n 1, 1) := by decide +kernel
theorem dX3_isInstalled_33 : decode cX3_isInstalled 33 = .ok (.aaload, 1) := by decide +kernel
theorem dX3_isInstalled_34 : decode cX3_isInstalled 34 = .ok (.invokestatic 70, 3) := by decide +kernel
theorem dX3_isInstalled_37 : decode cX3_isInstalled 37 = .ok (.ifCond .eq 7, 3) := by decide +kernel
theorem dX3_isInstalled_40 : decode cX3_isInstalled 40 = .ok (.iconst 1, 1) := by decide +kernel
theorem dX3_isInstalled_41 : decode cX3_isInstalled 41 = .ok (.goto 4, 3) := by decide +kernel
theorem dX3_isInstalled_44 : decode cX3_isInstalled 44 = .ok (.iconst 0, 1) := by decide +kernel
theorem dX3_isInstalled_45 : decode cX3_isInstalled 45 = .ok (.ireturn, 1) := by decide +kernel
theorem dX3_installedLength_0 : decode cX3_installedLength 0 = .ok (.aload_n 0, 1) := by decide +kernel
theorem dX3_installedLength_1 : decode cX3_installedLength 1 = .ok (.iconst 0, 1) := by decide +kernel
theorem dX3_installedLength_2 : decode cX3_installedLength 2 = .ok (.putfield 33, 3) := by decide +kernel
theorem dX3_installedLength_5 : decode cX3_installedLength 5 = .ok (.aload_n 0, 1) := by decide +kernel
theorem dX3_installedLength_6 : decode cX3_installedLength 6 = .ok (.getfield 27, 3) := by decide +kernel
theorem dX3_installedLength_9 : decode cX3_installedLength 9 = .ok (.arraylength, 1) := by decide +kernel
theorem dX3_installedLength_10 : decode cX3_installedLength 10 = .ok (.ireturn, 1) := by decide +kernel
theorem dX3_with_0 : decode cX3_with 0 = .ok (.lload_n 0, 1) := by decide +kernel
theorem dX3_with_1 : decode cX3_with 1 = .ok (.ldc2_w 123, 3) := by decide +kernel
theorem dX3_with_4 : decode cX3_with 4 = .ok (.lmul, 1) := by decide +kernel
theorem dX3_with_5 : decode cX3_with 5 = .ok (.iload_n 3, 1) := by decide +kernel
theorem dX3_with_6 : decode cX3_with 6 = .ok (.i2l, 1) := by decide +kernel
theorem dX3_with_7 : decode cX3_with 7 = .ok (.ladd, 1) := by decide +kernel
theorem dX3_with_8 : decode cX3_with 8 = .ok (.lstore 4, 2) := by decide +kernel
theorem dX3_with_10 : decode cX3_with 10 = .ok (.iconst 0, 1) := by decide +kernel
theorem dX3_with_11 : decode cX3_with 11 = .ok (.istore 6, 2) := by decide +kernel
theorem dX3_with_13 : decode cX3_with 13 = .ok (.iload 6, 2) := by decide +kernel
theorem dX3_with_15 : decode cX3_with 15 = .ok (.iload_n 3, 1) := by decide +kernel
theorem dX3_with_16 : decode cX3_with 16 = .ok (.if_icmp .ge 23, 3) := by decide +kernel
theorem dX3_with_19 : decode cX3_with 19 = .ok (.lload 4, 2) := by decide +kernel
theorem dX3_with_21 : decode cX3_with 21 = .ok (.ldc2_w 123, 3) := by decide +kernel
theorem dX3_with_24 : decode cX3_with 24 = .ok (.lmul, 1) := by decide +kernel
theorem dX3_with_25 : decode cX3_with 25 = .ok (.aload_n 2, 1) := by decide +kernel
theorem dX3_with_26 : decode cX3_with 26 = .ok (.iload 6, 2) := by decide +kernel
theorem dX3_with_28 : decode cX3_with 28 = .ok (.iaload, 1) := by decide +kernel
theorem dX3_with_29 : decode cX3_with 29 = .ok (.i2l, 1) := by decide +kernel
theorem dX3_with_30 : decode cX3_with 30 = .ok (.ladd, 1) := by decide +kernel
theorem dX3_with_31 : decode cX3_with 31 = .ok (.lstore 4, 2) := by decide +kernel
theorem dX3_with_33 : decode cX3_with 33 = .ok (.iinc 6 1, 3) := by decide +kernel
theorem dX3_with_36 : decode cX3_with 36 = .ok (.goto (-23), 3) := by decide +kernel
theorem dX3_with_39 : decode cX3_with 39 = .ok (.lload 4, 2) := by decide +kernel
theorem dX3_with_41 : decode cX3_with 41 = .ok (.lreturn, 1) := by decide +kernel
set_option maxRecDepth 20000 in
theorem ggX3_digest_X3_with : GoodIn wsX3_digest wsX3_with := goodIn_r _ [14, 5] (by decide +kernel) (by decide +kernel)
set_option maxRecDepth 20000 in
theorem gX3_digest_X3_with : GoodIn wsX3_digest (va_wsS RX3 127 yX3_with wsX3_with) := goodIn_app (goodIn_of _ (by decide +kernel)) ggX3_digest_X3_with
set_option maxRecDepth 20000 in
theorem ggX3_digest_X3_many : GoodIn wsX3_digest wsX3_many := goodIn_r _ [18, 19, 20, 21, 22, 13, 23, 32, 33, 34, 35, 36, 37, 38, 39, 40, 41, 42, 43] (by decide +kernel) (by decide +kernel)
set_option maxRecDepth 20000 in
theorem gX3_digest_X3_many : GoodIn wsX3_digest (wsV RX3 100 RX3 yX3_many wsX3_many) := goodIn_app (goodIn_of _ (by decide +kernel)) ggX3_digest_X3_many
set_option maxRecDepth 20000 in
theorem ggX3_digest_X3_told : GoodIn wsX3_digest wsX3_told := goodIn_r _ [27, 19, 28, 20, 21, 22, 13, 23, 29, 30, 31, 32, 33, 34, 35, 36, 37, 38, 39, 40, 41, 42, 43] (by decide +kernel) (by decide +kernel)
set_option maxRecDepth 20000 in
theorem gX3_digest_X3_told : GoodIn wsX3_digest (wsV RX3 103 RX3 yX3_told wsX3_told) := goodIn_app (goodIn_of _ (by decide +kernel)) ggX3_digest_X3_told
theorem dX3_digest_0 : decode cX3_digest 0 = .ok (.aload_n 0, 1) := by decide +kernel
theorem dX3_digest_1 : decode cX3_digest 1 = .ok (.iconst 0, 1) := by decide +kernel
theorem dX3_digest_2 : decode cX3_digest 2 = .ok (.putfield 33, 3) := by decide +kernel
theorem dX3_digest_5 : decode cX3_digest 5 = .ok (.ldc2_w 125, 3) := by decide +kernel
theorem dX3_digest_8 : decode cX3_digest 8 = .ok (.aload_n 0, 1) := by decide +kernel
theorem dX3_digest_9 : decode cX3_digest 9 = .ok (.getfield 9, 3) := by decide +kernel
theorem dX3_digest_12 : decode cX3_digest 12 = .ok (.aload_n 0, 1) := by decide +kernel
theorem dX3_digest_13 : decode cX3_digest 13 = .ok (.getfield 51, 3) := by decide +kernel
theorem dX3_digest_16 : decode cX3_digest 16 = .ok (.invokestatic 127, 3) := by decide +kernel
theorem dX3_digest_19 : decode cX3_digest 19 = .ok (.lstore_n 1, 1) := by decide +kernel
theorem dX3_digest_20 : decode cX3_digest 20 = .ok (.lload_n 1, 1) := by decide +kernel
theorem dX3_digest_21 : decode cX3_digest 21 = .ok (.ldc2_w 123, 3) := by decide +kernel
theorem dX3_digest_24 : decode cX3_digest 24 = .ok (.lmul, 1) := by decide +kernel
theorem dX3_digest_25 : decode cX3_digest 25 = .ok (.aload_n 0, 1) := by decide +kernel
theorem dX3_digest_26 : decode cX3_digest 26 = .ok (.getfield 37, 3) := by decide +kernel
theorem dX3_digest_29 : decode cX3_digest 29 = .ok (.i2l, 1) := by decide +kernel
theorem dX3_digest_30 : decode cX3_digest 30 = .ok (.ladd, 1) := by decide +kernel
theorem dX3_digest_31 : decode cX3_digest 31 = .ok (.lstore_n 1, 1) := by decide +kernel
theorem dX3_digest_32 : decode cX3_digest 32 = .ok (.iconst 0, 1) := by decide +kernel
theorem dX3_digest_33 : decode cX3_digest 33 = .ok (.istore_n 3, 1) := by decide +kernel
theorem dX3_digest_34 : decode cX3_digest 34 = .ok (.iload_n 3, 1) := by decide +kernel
theorem dX3_digest_35 : decode cX3_digest 35 = .ok (.aload_n 0, 1) := by decide +kernel
theorem dX3_digest_36 : decode cX3_digest 36 = .ok (.getfield 37, 3) := by decide +kernel
theorem dX3_digest_39 : decode cX3_digest 39 = .ok (.if_icmp .ge 27, 3) := by decide +kernel
theorem dX3_digest_42 : decode cX3_digest 42 = .ok (.lload_n 1, 1) := by decide +kernel
theorem dX3_digest_43 : decode cX3_digest 43 = .ok (.aload_n 0, 1) := by decide +kernel
theorem dX3_digest_44 : decode cX3_digest 44 = .ok (.getfield 14, 3) := by decide +kernel
theorem dX3_digest_47 : decode cX3_digest 47 = .ok (.iload_n 3, 1) := by decide +kernel
theorem dX3_digest_48 : decode cX3_digest 48 = .ok (.aaload, 1) := by decide +kernel
theorem dX3_digest_49 : decode cX3_digest 49 = .ok (.aload_n 0, 1) := by decide +kernel
theorem dX3_digest_50 : decode cX3_digest 50 = .ok (.getfield 14, 3) := by decide +kernel
theorem dX3_digest_53 : decode cX3_digest 53 = .ok (.iload_n 3, 1) := by decide +kernel
theorem dX3_digest_54 : decode cX3_digest 54 = .ok (.aaload, 1) := by decide +kernel
theorem dX3_digest_55 : decode cX3_digest 55 = .ok (.arraylength, 1) := by decide +kernel
theorem dX3_digest_56 : decode cX3_digest 56 = .ok (.invokestatic 127, 3) := by decide +kernel
theorem dX3_digest_59 : decode cX3_digest 59 = .ok (.lstore_n 1, 1) := by decide +kernel
theorem dX3_digest_60 : decode cX3_digest 60 = .ok (.iinc 3 1, 3) := by decide +kernel
theorem dX3_digest_63 : decode cX3_digest 63 = .ok (.goto (-29), 3) := by decide +kernel
theorem dX3_digest_66 : decode cX3_digest 66 = .ok (.lload_n 1, 1) := by decide +kernel
theorem dX3_digest_67 : decode cX3_digest 67 = .ok (.ldc2_w 123, 3) := by decide +kernel
theorem dX3_digest_70 : decode cX3_digest 70 = .ok (.lmul, 1) := by decide +kernel
theorem dX3_digest_71 : decode cX3_digest 71 = .ok (.aload_n 0, 1) := by decide +kernel
theorem dX3_digest_72 : decode cX3_digest 72 = .ok (.getfield 44, 3) := by decide +kernel
theorem dX3_digest_75 : decode cX3_digest 75 = .ok (.i2l, 1) := by decide +kernel
theorem dX3_digest_76 : decode cX3_digest 76 = .ok (.ladd, 1) := by decide +kernel
theorem dX3_digest_77 : decode cX3_digest 77 = .ok (.lstore_n 1, 1) := by decide +kernel
theorem dX3_digest_78 : decode cX3_digest 78 = .ok (.iconst 0, 1) := by decide +kernel
theorem dX3_digest_79 : decode cX3_digest 79 = .ok (.istore_n 3, 1) := by decide +kernel
theorem dX3_digest_80 : decode cX3_digest 80 = .ok (.iload_n 3, 1) := by decide +kernel
theorem dX3_digest_81 : decode cX3_digest 81 = .ok (.aload_n 0, 1) := by decide +kernel
theorem dX3_digest_82 : decode cX3_digest 82 = .ok (.getfield 44, 3) := by decide +kernel
theorem dX3_digest_85 : decode cX3_digest 85 = .ok (.if_icmp .ge 74, 3) := by decide +kernel
theorem dX3_digest_88 : decode cX3_digest 88 = .ok (.aload_n 0, 1) := by decide +kernel
theorem dX3_digest_89 : decode cX3_digest 89 = .ok (.iload_n 3, 1) := by decide +kernel
theorem dX3_digest_90 : decode cX3_digest 90 = .ok (.invokevirtual 100, 3) := by decide +kernel
theorem dX3_digest_93 : decode cX3_digest 93 = .ok (.istore 4, 2) := by decide +kernel
theorem dX3_digest_95 : decode cX3_digest 95 = .ok (.lload_n 1, 1) := by decide +kernel
theorem dX3_digest_96 : decode cX3_digest 96 = .ok (.ldc2_w 123, 3) := by decide +kernel
theorem dX3_digest_99 : decode cX3_digest 99 = .ok (.lmul, 1) := by decide +kernel
theorem dX3_digest_100 : decode cX3_digest 100 = .ok (.iload 4, 2) := by decide +kernel
theorem dX3_digest_102 : decode cX3_digest 102 = .ok (.i2l, 1) := by decide +kernel
theorem dX3_digest_103 : decode cX3_digest 103 = .ok (.ladd, 1) := by decide +kernel
theorem dX3_digest_104 : decode cX3_digest 104 = .ok (.lstore_n 1, 1) := by decide +kernel
theorem dX3_digest_105 : decode cX3_digest 105 = .ok (.iconst 0, 1) := by decide +kernel
theorem dX3_digest_106 : decode cX3_digest 106 = .ok (.istore 5, 2) := by decide +kernel
theorem dX3_digest_108 : decode cX3_digest 108 = .ok (.iload 5, 2) := by decide +kernel
theorem dX3_digest_110 : decode cX3_digest 110 = .ok (.iload 4, 2) := by decide +kernel
theorem dX3_digest_112 : decode cX3_digest 112 = .ok (.if_icmp .ge 41, 3) := by decide +kernel
theorem dX3_digest_115 : decode cX3_digest 115 = .ok (.iconst 0, 1) := by decide +kernel
theorem dX3_digest_116 : decode cX3_digest 116 = .ok (.istore 6, 2) := by decide +kernel
theorem dX3_digest_118 : decode cX3_digest 118 = .ok (.iload 6, 2) := by decide +kernel
theorem dX3_digest_120 : decode cX3_digest 120 = .ok (.iconst 4, 1) := by decide +kernel
theorem dX3_digest_121 : decode cX3_digest 121 = .ok (.if_icmp .ge 26, 3) := by decide +kernel
theorem dX3_digest_124 : decode cX3_digest 124 = .ok (.lload_n 1, 1) := by decide +kernel
theorem dX3_digest_125 : decode cX3_digest 125 = .ok (.ldc2_w 123, 3) := by decide +kernel
theorem dX3_digest_128 : decode cX3_digest 128 = .ok (.lmul, 1) := by decide +kernel
theorem dX3_digest_129 : decode cX3_digest 129 = .ok (.aload_n 0, 1) := by decide +kernel
theorem dX3_digest_130 : decode cX3_digest 130 = .ok (.iload_n 3, 1) := by decide +kernel
theorem dX3_digest_131 : decode cX3_digest 131 = .ok (.iload 5, 2) := by decide +kernel
theorem dX3_digest_133 : decode cX3_digest 133 = .ok (.iload 6, 2) := by decide +kernel
theorem dX3_digest_135 : decode cX3_digest 135 = .ok (.invokevirtual 103, 3) := by decide +kernel
theorem dX3_digest_138 : decode cX3_digest 138 = .ok (.i2l, 1) := by decide +kernel
theorem dX3_digest_139 : decode cX3_digest 139 = .ok (.ladd, 1) := by decide +kernel
theorem dX3_digest_140 : decode cX3_digest 140 = .ok (.lstore_n 1, 1) := by decide +kernel
theorem dX3_digest_141 : decode cX3_digest 141 = .ok (.iinc 6 1, 3) := by decide +kernel
theorem dX3_digest_144 : decode cX3_digest 144 = .ok (.goto (-26), 3) := by decide +kernel
theorem dX3_digest_147 : decode cX3_digest 147 = .ok (.iinc 5 1, 3) := by decide +kernel
theorem dX3_digest_150 : decode cX3_digest 150 = .ok (.goto (-42), 3) := by decide +kernel
theorem dX3_digest_153 : decode cX3_digest 153 = .ok (.iinc 3 1, 3) := by decide +kernel
theorem dX3_digest_156 : decode cX3_digest 156 = .ok (.goto (-76), 3) := by decide +kernel
theorem dX3_digest_159 : decode cX3_digest 159 = .ok (.lload_n 1, 1) := by decide +kernel
theorem dX3_digest_160 : decode cX3_digest 160 = .ok (.aload_n 0, 1) := by decide +kernel
theorem dX3_digest_161 : decode cX3_digest 161 = .ok (.getfield 27, 3) := by decide +kernel
theorem dX3_digest_164 : decode cX3_digest 164 = .ok (.aload_n 0, 1) := by decide +kernel
theorem dX3_digest_165 : decode cX3_digest 165 = .ok (.getfield 27, 3) := by decide +kernel
theorem dX3_digest_168 : decode cX3_digest 168 = .ok (.arraylength, 1) := by decide +kernel
theorem dX3_digest_169 : decode cX3_digest 169 = .ok (.invokestatic 127, 3) := by decide +kernel
theorem dX3_digest_172 : decode cX3_digest 172 = .ok (.ldc2_w 123, 3) := by decide +kernel
theorem dX3_digest_175 : decode cX3_digest 175 = .ok (.lmul, 1) := by decide +kernel
theorem dX3_digest_176 : decode cX3_digest 176 = .ok (.aload_n 0, 1) := by decide +kernel
theorem dX3_digest_177 : decode cX3_digest 177 = .ok (.getfield 117, 3) := by decide +kernel
theorem dX3_digest_180 : decode cX3_digest 180 = .ok (.i2l, 1) := by decide +kernel
theorem dX3_digest_181 : decode cX3_digest 181 = .ok (.ladd, 1) := by decide +kernel
theorem dX3_digest_182 : decode cX3_digest 182 = .ok (.lreturn, 1) := by decide +kernel
theorem dJ9_max_7cf53_0 : decode cJ9_max_7cf53 0 = .ok (.iload_n 0, 1) := by decide +kernel
theorem dJ9_max_7cf53_1 : decode cJ9_max_7cf53 1 = .ok (.iload_n 1, 1) := by decide +kernel
theorem dJ9_max_7cf53_2 : decode cJ9_max_7cf53 2 = .ok (.if_icmp .lt 7, 3) := by decide +kernel
theorem dJ9_max_7cf53_5 : decode cJ9_max_7cf53 5 = .ok (.iload_n 0, 1) := by decide +kernel
theorem dJ9_max_7cf53_6 : decode cJ9_max_7cf53 6 = .ok (.goto 4, 3) := by decide +kernel
theorem dJ9_max_7cf53_9 : decode cJ9_max_7cf53 9 = .ok (.iload_n 1, 1) := by decide +kernel
theorem dJ9_max_7cf53_10 : decode cJ9_max_7cf53 10 = .ok (.ireturn, 1) := by decide +kernel
theorem dJ9_min_7cf53_0 : decode cJ9_min_7cf53 0 = .ok (.iload_n 0, 1) := by decide +kernel
theorem dJ9_min_7cf53_1 : decode cJ9_min_7cf53 1 = .ok (.iload_n 1, 1) := by decide +kernel
theorem dJ9_min_7cf53_2 : decode cJ9_min_7cf53 2 = .ok (.if_icmp .gt 7, 3) := by decide +kernel
theorem dJ9_min_7cf53_5 : decode cJ9_min_7cf53 5 = .ok (.iload_n 0, 1) := by decide +kernel
theorem dJ9_min_7cf53_6 : decode cJ9_min_7cf53 6 = .ok (.goto 4, 3) := by decide +kernel
theorem dJ9_min_7cf53_9 : decode cJ9_min_7cf53 9 = .ok (.iload_n 1, 1) := by decide +kernel
theorem dJ9_min_7cf53_10 : decode cJ9_min_7cf53 10 = .ok (.ireturn, 1) := by decide +kernel
theorem dJxa1e45_init_da8c8_0 : decode cJxa1e45_init_da8c8 0 = .ok (.aload_n 0, 1) := by decide +kernel
theorem dJxa1e45_init_da8c8_1 : decode cJxa1e45_init_da8c8 1 = .ok (.invokespecial 1, 3) := by decide +kernel
theorem dJxa1e45_init_da8c8_4 : decode cJxa1e45_init_da8c8 4 = .ok (.return_, 1) := by decide +kernel
set_option maxRecDepth 20000 in
theorem ggJxc12de_init_da8c8_Jxa1e45_init_da8c8 : GoodIn wsJxc12de_init_da8c8 wsJxa1e45_init_da8c8 := goodIn_r _ [5, 6, 7, 8] (by decide +kernel) (by decide +kernel)
set_option maxRecDepth 20000 in
theorem gJxc12de_init_da8c8_Jxa1e45_init_da8c8 : GoodIn wsJxc12de_init_da8c8 (wsJxa1e45_init_da8c8) := ggJxc12de_init_da8c8_Jxa1e45_init_da8c8
theorem dJxc12de_init_da8c8_0 : decode cJxc12de_init_da8c8 0 = .ok (.aload_n 0, 1) := by decide +kernel
theorem dJxc12de_init_da8c8_1 : decode cJxc12de_init_da8c8 1 = .ok (.invokespecial 1, 3) := by decide +kernel
theorem dJxc12de_init_da8c8_4 : decode cJxc12de_init_da8c8 4 = .ok (.aload_n 0, 1) := by decide +kernel
theorem dJxc12de_init_da8c8_5 : decode cJxc12de_init_da8c8 5 = .ok (.iconst 0, 1) := by decide +kernel
theorem dJxc12de_init_da8c8_6 : decode cJxc12de_init_da8c8 6 = .ok (.putfield 7, 3) := by decide +kernel
theorem dJxc12de_init_da8c8_9 : decode cJxc12de_init_da8c8 9 = .ok (.return_, 1) := by decide +kernel
set_option maxRecDepth 20000 in
theorem ggJx4a65c_init_da8c8_Jxc12de_init_da8c8 : GoodIn wsJx4a65c_init_da8c8 wsJxc12de_init_da8c8 := goodIn_r _ [6, 7, 8, 9, 10, 11, 12, 13, 14, 15, 16, 17] (by decide +kernel) (by decide +kernel)
set_option maxRecDepth 20000 in
theorem gJx4a65c_init_da8c8_Jxc12de_init_da8c8 : GoodIn wsJx4a65c_init_da8c8 (wsJxc12de_init_da8c8) := ggJx4a65c_init_da8c8_Jxc12de_init_da8c8
theorem dJx4a65c_init_da8c8_0 : decode cJx4a65c_init_da8c8 0 = .ok (.aload_n 0, 1) := by decide +kernel
theorem dJx4a65c_init_da8c8_1 : decode cJx4a65c_init_da8c8 1 = .ok (.invokespecial 1, 3) := by decide +kernel
theorem dJx4a65c_init_da8c8_4 : decode cJx4a65c_init_da8c8 4 = .ok (.aload_n 0, 1) := by decide +kernel
theorem dJx4a65c_init_da8c8_5 : decode cJx4a65c_init_da8c8 5 = .ok (.getstatic 39, 3) := by decide +kernel
theorem dJx4a65c_init_da8c8_8 : decode cJx4a65c_init_da8c8 8 = .ok (.putfield 9, 3) := by decide +kernel
theorem dJx4a65c_init_da8c8_11 : decode cJx4a65c_init_da8c8 11 = .ok (.return_, 1) := by decide +kernel
set_option maxRecDepth 20000 in
theorem ggJx4a65c_grow_92f84_J8_newLength_cabcc : GoodIn wsJx4a65c_grow_92f84 wsJ8_newLength_cabcc := goodIn_r _ [11, 12, 4, 5, 6, 13, 14, 15, 10, 16] (by decide +kernel) (by decide +kernel)
set_option maxRecDepth 20000 in
theorem gJx4a65c_grow_92f84_J8_newLength_cabcc : GoodIn wsJx4a65c_grow_92f84 (va_wsS RJx4a65c 73 yJ8_newLength_cabcc wsJ8_newLength_cabcc) := goodIn_app (goodIn_of _ (by decide +kernel)) ggJx4a65c_grow_92f84_J8_newLength_cabcc
set_option maxRecDepth 20000 in
theorem ggJx4a65c_grow_92f84_J7_copyOf_1904c : GoodIn wsJx4a65c_grow_92f84 wsJ7_copyOf_1904c := goodIn_r _ [20, 21, 22, 23, 24, 25, 26, 19, 27, 28, 29, 30, 31, 5, 32, 33, 34, 35, 36] (by decide +kernel) (by decide +kernel)
set_option maxRecDepth 20000 in
theorem gJx4a65c_grow_92f84_J7_copyOf_1904c : GoodIn wsJx4a65c_grow_92f84 (va_wsS RJx4a65c 66 yJ7_copyOf_1904c wsJ7_copyOf_1904c) := goodIn_app (goodIn_of _ (by decide +kernel)) ggJx4a65c_grow_92f84_J7_copyOf_1904c
theorem dJx4a65c_grow_92f84_0 : decode cJx4a65c_grow_92f84 0 = .ok (.aload_n 0, 1) := by decide +kernel
theorem dJx4a65c_grow_92f84_1 : decode cJx4a65c_grow_92f84 1 = .ok (.getfield 9, 3) := by decide +kernel
theorem dJx4a65c_grow_92f84_4 : decode cJx4a65c_grow_92f84 4 = .ok (.arraylength, 1) := by decide +kernel
theorem dJx4a65c_grow_92f84_5 : decode cJx4a65c_grow_92f84 5 = .ok (.istore_n 2, 1) := by decide +kernel
theorem dJx4a65c_grow_92f84_6 : decode cJx4a65c_grow_92f84 6 = .ok (.iload_n 2, 1) := by decide +kernel
theorem dJx4a65c_grow_92f84_7 : decode cJx4a65c_grow_92f84 7 = .ok (.ifCond .gt 13, 3) := by decide +kernel
theorem dJx4a65c_grow_92f84_10 : decode cJx4a65c_grow_92f84 10 = .ok (.aload_n 0, 1) := by decide +kernel
theorem dJx4a65c_grow_92f84_11 : decode cJx4a65c_grow_92f84 11 = .ok (.getfield 9, 3) := by decide +kernel
theorem dJx4a65c_grow_92f84_14 : decode cJx4a65c_grow_92f84 14 = .ok (.getstatic 39, 3) := by decide +kernel
theorem dJx4a65c_grow_92f84_17 : decode cJx4a65c_grow_92f84 17 = .ok (.if_acmp .eq 28, 3) := by decide +kernel
theorem dJx4a65c_grow_92f84_20 : decode cJx4a65c_grow_92f84 20 = .ok (.iload_n 2, 1) := by decide +kernel
theorem dJx4a65c_grow_92f84_21 : decode cJx4a65c_grow_92f84 21 = .ok (.iload_n 1, 1) := by decide +kernel
theorem dJx4a65c_grow_92f84_22 : decode cJx4a65c_grow_92f84 22 = .ok (.iload_n 2, 1) := by decide +kernel
theorem dJx4a65c_grow_92f84_23 : decode cJx4a65c_grow_92f84 23 = .ok (.isub, 1) := by decide +kernel
theorem dJx4a65c_grow_92f84_24 : decode cJx4a65c_grow_92f84 24 = .ok (.iload_n 2, 1) := by decide +kernel
theorem dJx4a65c_grow_92f84_25 : decode cJx4a65c_grow_92f84 25 = .ok (.iconst 1, 1) := by decide +kernel
theorem dJx4a65c_grow_92f84_26 : decode cJx4a65c_grow_92f84 26 = .ok (.ishr, 1) := by decide +kernel
theorem dJx4a65c_grow_92f84_27 : decode cJx4a65c_grow_92f84 27 = .ok (.invokestatic 73, 3) := by decide +kernel
theorem dJx4a65c_grow_92f84_30 : decode cJx4a65c_grow_92f84 30 = .ok (.istore_n 3, 1) := by decide +kernel
theorem dJx4a65c_grow_92f84_31 : decode cJx4a65c_grow_92f84 31 = .ok (.aload_n 0, 1) := by decide +kernel
theorem dJx4a65c_grow_92f84_32 : decode cJx4a65c_grow_92f84 32 = .ok (.aload_n 0, 1) := by decide +kernel
theorem dJx4a65c_grow_92f84_33 : decode cJx4a65c_grow_92f84 33 = .ok (.getfield 9, 3) := by decide +kernel
theorem dJx4a65c_grow_92f84_36 : decode cJx4a65c_grow_92f84 36 = .ok (.iload_n 3, 1) := by decide +kernel
theorem dJx4a65c_grow_92f84_37 : decode cJx4a65c_grow_92f84 37 = .ok (.invokestatic 66, 3) := by decide +kernel
theorem dJx4a65c_grow_92f84_40 : decode cJx4a65c_grow_92f84 40 = .ok (.dup_x1, 1) := by decide +kernel
theorem dJx4a65c_grow_92f84_41 : decode cJx4a65c_grow_92f84 41 = .ok (.putfield 9, 3) := by decide +kernel
theorem dJx4a65c_grow_92f84_44 : decode cJx4a65c_grow_92f84 44 = .ok (.areturn, 1) := by decide +kernel
theorem dJx4a65c_grow_92f84_45 : decode cJx4a65c_grow_92f84 45 = .ok (.aload_n 0, 1) := by decide +kernel
theorem dJx4a65c_grow_92f84_46 : decode cJx4a65c_grow_92f84 46 = .ok (.bipush 10, 2) := by decide +kernel
theorem dJx4a65c_grow_92f84_48 : decode cJx4a65c_grow_92f84 48 = .ok (.iload_n 1, 1) := by decide +kernel
theorem dJx4a65c_grow_92f84_49 : decode cJx4a65c_grow_92f84 49 = .ok (.invokestatic 79, 3) := by decide +kernel
theorem dJx4a65c_grow_92f84_52 : decode cJx4a65c_grow_92f84 52 = .ok (.anewarray 7, 3) := by decide +kernel
theorem dJx4a65c_grow_92f84_55 : decode cJx4a65c_grow_92f84 55 = .ok (.dup_x1, 1) := by decide +kernel
theorem dJx4a65c_grow_92f84_56 : decode cJx4a65c_grow_92f84 56 = .ok (.putfield 9, 3) := by decide +kernel
theorem dJx4a65c_grow_92f84_59 : decode cJx4a65c_grow_92f84 59 = .ok (.areturn, 1) := by decide +kernel
set_option maxRecDepth 20000 in
theorem ggJx4a65c_grow_d5877_Jx4a65c_grow_92f84 : GoodIn wsJx4a65c_grow_d5877 wsJx4a65c_grow_92f84 := goodIn_r _ [6, 7, 8, 9, 10, 11, 12, 13, 14, 15, 16, 17, 18, 19, 20, 21, 22, 23, 24, 25, 26, 27, 28, 29, 30, 31, 32, 33, 34, 35, 36, 37, 38, 39, 40, 41, 42, 43, 44, 45] (by decide +kernel) (by decide +kernel)
set_option maxRecDepth 20000 in
theorem gJx4a65c_grow_d5877_Jx4a65c_grow_92f84 : GoodIn wsJx4a65c_grow_d5877 (wsV RJx4a65c 69 RJx4a65c yJx4a65c_grow_92f84 wsJx4a65c_grow_92f84) := goodIn_app (goodIn_of _ (by decide +kernel)) ggJx4a65c_grow_d5877_Jx4a65c_grow_92f84
theorem dJx4a65c_grow_d5877_0 : decode cJx4a65c_grow_d5877 0 = .ok (.aload_n 0, 1) := by decide +kernel
theorem dJx4a65c_grow_d5877_1 : decode cJx4a65c_grow_d5877 1 = .ok (.aload_n 0, 1) := by decide +kernel
theorem dJx4a65c_grow_d5877_2 : decode cJx4a65c_grow_d5877 2 = .ok (.getfield 48, 3) := by decide +kernel
theorem dJx4a65c_grow_d5877_5 : decode cJx4a65c_grow_d5877 5 = .ok (.iconst 1, 1) := by decide +kernel
theorem dJx4a65c_grow_d5877_6 : decode cJx4a65c_grow_d5877 6 = .ok (.iadd, 1) := by decide +kernel
theorem dJx4a65c_grow_d5877_7 : decode cJx4a65c_grow_d5877 7 = .ok (.invokevirtual 69, 3) := by decide +kernel
theorem dJx4a65c_grow_d5877_10 : decode cJx4a65c_grow_d5877 10 = .ok (.areturn, 1) := by decide +kernel
theorem dJx4a65c_size_8abf5_0 : decode cJx4a65c_size_8abf5 0 = .ok (.aload_n 0, 1) := by decide +kernel
theorem dJx4a65c_size_8abf5_1 : decode cJx4a65c_size_8abf5 1 = .ok (.getfield 48, 3) := by decide +kernel
theorem dJx4a65c_size_8abf5_4 : decode cJx4a65c_size_8abf5 4 = .ok (.ireturn, 1) := by decide +kernel
theorem dJx4a65c_elementData_915e3_0 : decode cJx4a65c_elementData_915e3 0 = .ok (.aload_n 0, 1) := by decide +kernel
theorem dJx4a65c_elementData_915e3_1 : decode cJx4a65c_elementData_915e3 1 = .ok (.getfield 9, 3) := by decide +kernel
theorem dJx4a65c_elementData_915e3_4 : decode cJx4a65c_elementData_915e3 4 = .ok (.iload_n 1, 1) := by decide +kernel
theorem dJx4a65c_elementData_915e3_5 : decode cJx4a65c_elementData_915e3 5 = .ok (.aaload, 1) := by decide +kernel
theorem dJx4a65c_elementData_915e3_6 : decode cJx4a65c_elementData_915e3 6 = .ok (.areturn, 1) := by decide +kernel
set_option maxRecDepth 20000 in
theorem ggJx4a65c_get_915e3_J15_checkIndex_7cf53 : GoodIn wsJx4a65c_get_915e3 wsJ15_checkIndex_7cf53 := goodIn_r _ [5, 6, 7, 8, 9] (by decide +kernel) (by decide +kernel)
set_option maxRecDepth 20000 in
theorem gJx4a65c_get_915e3_J15_checkIndex_7cf53 : GoodIn wsJx4a65c_get_915e3 (va_wsS RJx4a65c 118 yJ15_checkIndex_7cf53 wsJ15_checkIndex_7cf53) := goodIn_app (goodIn_of _ (by decide +kernel)) ggJx4a65c_get_915e3_J15_checkIndex_7cf53
set_option maxRecDepth 20000 in
theorem ggJx4a65c_get_915e3_Jx4a65c_elementData_915e3 : GoodIn wsJx4a65c_get_915e3 wsJx4a65c_elementData_915e3 := goodIn_r _ [14, 15, 16, 17, 18] (by decide +kernel) (by decide +kernel)
set_option maxRecDepth 20000 in
theorem gJx4a65c_get_915e3_Jx4a65c_elementData_915e3 : GoodIn wsJx4a65c_get_915e3 (wsV RJx4a65c 123 RJx4a65c yJx4a65c_elementData_915e3 wsJx4a65c_elementData_915e3) := goodIn_app (goodIn_of _ (by decide +kernel)) ggJx4a65c_get_915e3_Jx4a65c_elementData_915e3
theorem dJx4a65c_get_915e3_0 : decode cJx4a65c_get_915e3 0 = .ok (.iload_n 1, 1) := by decide +kernel
theorem dJx4a65c_get_915e3_1 : decode cJx4a65c_get_915e3 1 = .ok (.aload_n 0, 1) := by decide +kernel
theorem dJx4a65c_get_915e3_2 : decode cJx4a65c_get_915e3 2 = .ok (.getfield 48, 3) := by decide +kernel
theorem dJx4a65c_get_915e3_5 : decode cJx4a65c_get_915e3 5 = .ok (.invokestatic 118, 3) := by decide +kernel
theorem dJx4a65c_get_915e3_8 : decode cJx4a65c_get_915e3 8 = .ok (.pop, 1) := by decide +kernel
theorem dJx4a65c_get_915e3_9 : decode cJx4a65c_get_915e3 9 = .ok (.aload_n 0, 1) := by decide +kernel
theorem dJx4a65c_get_915e3_10 : decode cJx4a65c_get_915e3 10 = .ok (.iload_n 1, 1) := by decide +kernel
theorem dJx4a65c_get_915e3_11 : decode cJx4a65c_get_915e3 11 = .ok (.invokevirtual 123, 3) := by decide +kernel
theorem dJx4a65c_get_915e3_14 : decode cJx4a65c_get_915e3 14 = .ok (.areturn, 1) := by decide +kernel
set_option maxRecDepth 20000 in
theorem ggJx4a65c_add_72be8_Jx4a65c_grow_d5877 : GoodIn wsJx4a65c_add_72be8 wsJx4a65c_grow_d5877 := goodIn_r _ [6, 1, 7, 8, 9, 5, 10, 11, 12, 13, 14, 15, 16, 17, 18, 19, 20, 21, 22, 23, 24, 25, 26, 27, 28, 29, 30, 31, 32, 33, 34, 35, 36, 37, 38, 39, 40, 41, 42, 43, 44, 45, 46, 47, 48, 49] (by decide +kernel) (by decide +kernel)
set_option maxRecDepth 20000 in
theorem gJx4a65c_add_72be8_Jx4a65c_grow_d5877 : GoodIn wsJx4a65c_add_72be8 (wsV RJx4a65c 129 RJx4a65c yJx4a65c_grow_d5877 wsJx4a65c_grow_d5877) := goodIn_app (goodIn_of _ (by decide +kernel)) ggJx4a65c_add_72be8_Jx4a65c_grow_d5877
theorem dJx4a65c_add_72be8_0 : decode cJx4a65c_add_72be8 0 = .ok (.iload_n 3, 1) := by decide +kernel
theorem dJx4a65c_add_72be8_1 : decode cJx4a65c_add_72be8 1 = .ok (.aload_n 2, 1) := by decide +kernel
theorem dJx4a65c_add_72be8_2 : decode cJx4a65c_add_72be8 2 = .ok (.arraylength, 1) := by decide +kernel
theorem dJx4a65c_add_72be8_3 : decode cJx4a65c_add_72be8 3 = .ok (.if_icmp .ne 8, 3) := by decide +kernel
theorem dJx4a65c_add_72be8_6 : decode cJx4a65c_add_72be8 6 = .ok (.aload_n 0, 1) := by decide +kernel
theorem dJx4a65c_add_72be8_7 : decode cJx4a65c_add_72be8 7 = .ok (.invokevirtual 129, 3) := by decide +kernel
theorem dJx4a65c_add_72be8_10 : decode cJx4a65c_add_72be8 10 = .ok (.astore_n 2, 1) := by decide +kernel
theorem dJx4a65c_add_72be8_11 : decode cJx4a65c_add_72be8 11 = .ok (.aload_n 2, 1) := by decide +kernel
theorem dJx4a65c_add_72be8_12 : decode cJx4a65c_add_72be8 12 = .ok (.iload_n 3, 1) := by decide +kernel
theorem dJx4a65c_add_72be8_13 : decode cJx4a65c_add_72be8 13 = .ok (.aload_n 1, 1) := by decide +kernel
theorem dJx4a65c_add_72be8_14 : decode cJx4a65c_add_72be8 14 = .ok (.aastore, 1) := by decide +kernel
theorem dJx4a65c_add_72be8_15 : decode cJx4a65c_add_72be8 15 = .ok (.aload_n 0, 1) := by decide +kernel
theorem dJx4a65c_add_72be8_16 : decode cJx4a65c_add_72be8 16 = .ok (.iload_n 3, 1) := by decide +kernel
theorem dJx4a65c_add_72be8_17 : decode cJx4a65c_add_72be8 17 = .ok (.iconst 1, 1) := by decide +kernel
theorem dJx4a65c_add_72be8_18 : decode cJx4a65c_add_72be8 18 = .ok (.iadd, 1) := by decide +kernel
theorem dJx4a65c_add_72be8_19 : decode cJx4a65c_add_72be8 19 = .ok (.putfield 48, 3) := by decide +kernel
theorem dJx4a65c_add_72be8_22 : decode cJx4a65c_add_72be8 22 = .ok (.return_, 1) := by decide +kernel
set_option maxRecDepth 20000 in
theorem ggJx4a65c_add_9ea2d_Jx4a65c_add_72be8 : GoodIn wsJx4a65c_add_9ea2d wsJx4a65c_add_72be8 := goodIn_r _ [9, 4, 10, 11, 12, 8, 13, 14, 15, 16, 17, 3, 18, 19, 20, 21, 22, 23, 24, 25, 26, 27, 28, 29, 30, 31, 32, 33, 34, 35, 36, 37, 38, 39, 40, 41, 42, 43, 44, 45, 46, 47, 48, 49, 50, 51, 52, 53, 54, 55] (by decide +kernel) (by decide +kernel)
set_option maxRecDepth 20000 in
theorem gJx4a65c_add_9ea2d_Jx4a65c_add_72be8 : GoodIn wsJx4a65c_add_9ea2d (wsV RJx4a65c 131 RJx4a65c yJx4a65c_add_72be8 wsJx4a65c_add_72be8) := goodIn_app (goodIn_of _ (by decide +kernel)) ggJx4a65c_add_9ea2d_Jx4a65c_add_72be8
theorem dJx4a65c_add_9ea2d_0 : decode cJx4a65c_add_9ea2d 0 = .ok (.aload_n 0, 1) := by decide +kernel
theorem dJx4a65c_add_9ea2d_1 : decode cJx4a65c_add_9ea2d 1 = .ok (.dup, 1) := by decide +kernel
theorem dJx4a65c_add_9ea2d_2 : decode cJx4a65c_add_9ea2d 2 = .ok (.getfield 63, 3) := by decide +kernel
theorem dJx4a65c_add_9ea2d_5 : decode cJx4a65c_add_9ea2d 5 = .ok (.iconst 1, 1) := by decide +kernel
theorem dJx4a65c_add_9ea2d_6 : decode cJx4a65c_add_9ea2d 6 = .ok (.iadd, 1) := by decide +kernel
theorem dJx4a65c_add_9ea2d_7 : decode cJx4a65c_add_9ea2d 7 = .ok (.putfield 63, 3) := by decide +kernel
theorem dJx4a65c_add_9ea2d_10 : decode cJx4a65c_add_9ea2d 10 = .ok (.aload_n 0, 1) := by decide +kernel
theorem dJx4a65c_add_9ea2d_11 : decode cJx4a65c_add_9ea2d 11 = .ok (.aload_n 1, 1) := by decide +kernel
theorem dJx4a65c_add_9ea2d_12 : decode cJx4a65c_add_9ea2d 12 = .ok (.aload_n 0, 1) := by decide +kernel
theorem dJx4a65c_add_9ea2d_13 : decode cJx4a65c_add_9ea2d 13 = .ok (.getfield 9, 3) := by decide +kernel
theorem dJx4a65c_add_9ea2d_16 : decode cJx4a65c_add_9ea2d 16 = .ok (.aload_n 0, 1) := by decide +kernel
theorem dJx4a65c_add_9ea2d_17 : decode cJx4a65c_add_9ea2d 17 = .ok (.getfield 48, 3) := by decide +kernel
theorem dJx4a65c_add_9ea2d_20 : decode cJx4a65c_add_9ea2d 20 = .ok (.invokevirtual 131, 3) := by decide +kernel
theorem dJx4a65c_add_9ea2d_23 : decode cJx4a65c_add_9ea2d 23 = .ok (.iconst 1, 1) := by decide +kernel
theorem dJx4a65c_add_9ea2d_24 : decode cJx4a65c_add_9ea2d 24 = .ok (.ireturn, 1) := by decide +kernel
set_option maxRecDepth 20000 in
theorem ggJx4a65c_remove_915e3_J15_checkIndex_7cf53 : GoodIn wsJx4a65c_remove_915e3 wsJ15_checkIndex_7cf53 := goodIn_r _ [6, 7, 8, 9, 10] (by decide +kernel) (by decide +kernel)
set_option maxRecDepth 20000 in
theorem gJx4a65c_remove_915e3_J15_checkIndex_7cf53 : GoodIn wsJx4a65c_remove_915e3 (va_wsS RJx4a65c 118 yJ15_checkIndex_7cf53 wsJ15_checkIndex_7cf53) := goodIn_app (goodIn_of _ (by decide +kernel)) ggJx4a65c_remove_915e3_J15_checkIndex_7cf53
set_option maxRecDepth 20000 in
theorem ggJx4a65c_remove_915e3_Jx4a65c_fastRemove_b59b0 : GoodIn wsJx4a65c_remove_915e3 wsJx4a65c_fastRemove_b59b0 := goodIn_r _ [15, 16, 17, 1, 18, 19, 20, 21, 22, 23, 24] (by decide +kernel) (by decide +kernel)
set_option maxRecDepth 20000 in
theorem gJx4a65c_remove_915e3_Jx4a65c_fastRemove_b59b0 : GoodIn wsJx4a65c_remove_915e3 (wsV RJx4a65c 144 RJx4a65c yJx4a65c_fastRemove_b59b0 wsJx4a65c_fastRemove_b59b0) := goodIn_app (goodIn_of _ (by decide +kernel)) ggJx4a65c_remove_915e3_Jx4a65c_fastRemove_b59b0
theorem dJx4a65c_remove_915e3_0 : decode cJx4a65c_remove_915e3 0 = .ok (.iload_n 1, 1) := by decide +kernel
theorem dJx4a65c_remove_915e3_1 : decode cJx4a65c_remove_915e3 1 = .ok (.aload_n 0, 1) := by decide +kernel
theorem dJx4a65c_remove_915e3_2 : decode cJx4a65c_remove_915e3 2 = .ok (.getfield 48, 3) := by decide +kernel
theorem dJx4a65c_remove_915e3_5 : decode cJx4a65c_remove_915e3 5 = .ok (.invokestatic 118, 3) := by decide +kernel
theorem dJx4a65c_remove_915e3_8 : decode cJx4a65c_remove_915e3 8 = .ok (.pop, 1) := by decide +kernel
theorem dJx4a65c_remove_915e3_9 : decode cJx4a65c_remove_915e3 9 = .ok (.aload_n 0, 1) := by decide +kernel
theorem dJx4a65c_remove_915e3_10 : decode cJx4a65c_remove_915e3 10 = .ok (.getfield 9, 3) := by decide +kernel
theorem dJx4a65c_remove_915e3_13 : decode cJx4a65c_remove_915e3 13 = .ok (.astore_n 2, 1) := by decide +kernel
theorem dJx4a65c_remove_915e3_14 : decode cJx4a65c_remove_915e3 14 = .ok (.aload_n 2, 1) := by decide +kernel
theorem dJx4a65c_remove_915e3_15 : decode cJx4a65c_remove_915e3 15 = .ok (.iload_n 1, 1) := by decide +kernel
theorem dJx4a65c_remove_915e3_16 : decode cJx4a65c_remove_915e3 16 = .ok (.aaload, 1) := by decide +kernel
theorem dJx4a65c_remove_915e3_17 : decode cJx4a65c_remove_915e3 17 = .ok (.astore_n 3, 1) := by decide +kernel
theorem dJx4a65c_remove_915e3_18 : decode cJx4a65c_remove_915e3 18 = .ok (.aload_n 0, 1) := by decide +kernel
theorem dJx4a65c_remove_915e3_19 : decode cJx4a65c_remove_915e3 19 = .ok (.aload_n 2, 1) := by decide +kernel
theorem dJx4a65c_remove_915e3_20 : decode cJx4a65c_remove_915e3 20 = .ok (.iload_n 1, 1) := by decide +kernel
theorem dJx4a65c_remove_915e3_21 : decode cJx4a65c_remove_915e3 21 = .ok (.invokevirtual 144, 3) := by decide +kernel
theorem dJx4a65c_remove_915e3_24 : decode cJx4a65c_remove_915e3 24 = .ok (.aload_n 3, 1) := by decide +kernel
theorem dJx4a65c_remove_915e3_25 : decode cJx4a65c_remove_915e3 25 = .ok (.areturn, 1) := by decide +kernel
theorem dJx4a65c_fastRemove_b59b0_0 : decode cJx4a65c_fastRemove_b59b0 0 = .ok (.aload_n 0, 1) := by decide +kernel
theorem dJx4a65c_fastRemove_b59b0_1 : decode cJx4a65c_fastRemove_b59b0 1 = .ok (.dup, 1) := by decide +kernel
theorem dJx4a65c_fastRemove_b59b0_2 : decode cJx4a65c_fastRemove_b59b0 2 = .ok (.getfield 63, 3) := by decide +kernel
theorem dJx4a65c_fastRemove_b59b0_5 : decode cJx4a65c_fastRemove_b59b0 5 = .ok (.iconst 1, 1) := by decide +kernel
theorem dJx4a65c_fastRemove_b59b0_6 : decode cJx4a65c_fastRemove_b59b0 6 = .ok (.iadd, 1) := by decide +kernel
theorem dJx4a65c_fastRemove_b59b0_7 : decode cJx4a65c_fastRemove_b59b0 7 = .ok (.putfield 63, 3) := by decide +kernel
theorem dJx4a65c_fastRemove_b59b0_10 : decode cJx4a65c_fastRemove_b59b0 10 = .ok (.aload_n 0, 1) := by decide +kernel
theorem dJx4a65c_fastRemove_b59b0_11 : decode cJx4a65c_fastRemove_b59b0 11 = .ok (.getfield 48, 3) := by decide +kernel
theorem dJx4a65c_fastRemove_b59b0_14 : decode cJx4a65c_fastRemove_b59b0 14 = .ok (.iconst 1, 1) := by decide +kernel
theorem dJx4a65c_fastRemove_b59b0_15 : decode cJx4a65c_fastRemove_b59b0 15 = .ok (.isub, 1) := by decide +kernel
theorem dJx4a65c_fastRemove_b59b0_16 : decode cJx4a65c_fastRemove_b59b0 16 = .ok (.dup, 1) := by decide +kernel
theorem dJx4a65c_fastRemove_b59b0_17 : decode cJx4a65c_fastRemove_b59b0 17 = .ok (.istore_n 3, 1) := by decide +kernel
theorem dJx4a65c_fastRemove_b59b0_18 : decode cJx4a65c_fastRemove_b59b0 18 = .ok (.iload_n 2, 1) := by decide +kernel
theorem dJx4a65c_fastRemove_b59b0_19 : decode cJx4a65c_fastRemove_b59b0 19 = .ok (.if_icmp .le 15, 3) := by decide +kernel
theorem dJx4a65c_fastRemove_b59b0_22 : decode cJx4a65c_fastRemove_b59b0 22 = .ok (.aload_n 1, 1) := by decide +kernel
theorem dJx4a65c_fastRemove_b59b0_23 : decode cJx4a65c_fastRemove_b59b0 23 = .ok (.iload_n 2, 1) := by decide +kernel
theorem dJx4a65c_fastRemove_b59b0_24 : decode cJx4a65c_fastRemove_b59b0 24 = .ok (.iconst 1, 1) := by decide +kernel
theorem dJx4a65c_fastRemove_b59b0_25 : decode cJx4a65c_fastRemove_b59b0 25 = .ok (.iadd, 1) := by decide +kernel
theorem dJx4a65c_fastRemove_b59b0_26 : decode cJx4a65c_fastRemove_b59b0 26 = .ok (.aload_n 1, 1) := by decide +kernel
theorem dJx4a65c_fastRemove_b59b0_27 : decode cJx4a65c_fastRemove_b59b0 27 = .ok (.iload_n 2, 1) := by decide +kernel
theorem dJx4a65c_fastRemove_b59b0_28 : decode cJx4a65c_fastRemove_b59b0 28 = .ok (.iload_n 3, 1) := by decide +kernel
theorem dJx4a65c_fastRemove_b59b0_29 : decode cJx4a65c_fastRemove_b59b0 29 = .ok (.iload_n 2, 1) := by decide +kernel
theorem dJx4a65c_fastRemove_b59b0_30 : decode cJx4a65c_fastRemove_b59b0 30 = .ok (.isub, 1) := by decide +kernel
theorem dJx4a65c_fastRemove_b59b0_31 : decode cJx4a65c_fastRemove_b59b0 31 = .ok (.invokestatic 112, 3) := by decide +kernel
theorem dJx4a65c_fastRemove_b59b0_34 : decode cJx4a65c_fastRemove_b59b0 34 = .ok (.aload_n 1, 1) := by decide +kernel
theorem dJx4a65c_fastRemove_b59b0_35 : decode cJx4a65c_fastRemove_b59b0 35 = .ok (.aload_n 0, 1) := by decide +kernel
theorem dJx4a65c_fastRemove_b59b0_36 : decode cJx4a65c_fastRemove_b59b0 36 = .ok (.iload_n 3, 1) := by decide +kernel
theorem dJx4a65c_fastRemove_b59b0_37 : decode cJx4a65c_fastRemove_b59b0 37 = .ok (.dup_x1, 1) := by decide +kernel
theorem dJx4a65c_fastRemove_b59b0_38 : decode cJx4a65c_fastRemove_b59b0 38 = .ok (.putfield 48, 3) := by decide +kernel
theorem dJx4a65c_fastRemove_b59b0_41 : decode cJx4a65c_fastRemove_b59b0 41 = .ok (.aconst_null, 1) := by decide +kernel
theorem dJx4a65c_fastRemove_b59b0_42 : decode cJx4a65c_fastRemove_b59b0 42 = .ok (.aastore, 1) := by decide +kernel
theorem dJx4a65c_fastRemove_b59b0_43 : decode cJx4a65c_fastRemove_b59b0 43 = .ok (.return_, 1) := by decide +kernel
theorem dJ7_fill_53178_0 : decode cJ7_fill_53178 0 = .ok (.iconst 0, 1) := by decide +kernel
theorem dJ7_fill_53178_1 : decode cJ7_fill_53178 1 = .ok (.istore_n 2, 1) := by decide +kernel
theorem dJ7_fill_53178_2 : decode cJ7_fill_53178 2 = .ok (.aload_n 0, 1) := by decide +kernel
theorem dJ7_fill_53178_3 : decode cJ7_fill_53178 3 = .ok (.arraylength, 1) := by decide +kernel
theorem dJ7_fill_53178_4 : decode cJ7_fill_53178 4 = .ok (.istore_n 3, 1) := by decide +kernel
theorem dJ7_fill_53178_5 : decode cJ7_fill_53178 5 = .ok (.iload_n 2, 1) := by decide +kernel
theorem dJ7_fill_53178_6 : decode cJ7_fill_53178 6 = .ok (.iload_n 3, 1) := by decide +kernel
theorem dJ7_fill_53178_7 : decode cJ7_fill_53178 7 = .ok (.if_icmp .ge 13, 3) := by decide +kernel
theorem dJ7_fill_53178_10 : decode cJ7_fill_53178 10 = .ok (.aload_n 0, 1) := by decide +kernel
theorem dJ7_fill_53178_11 : decode cJ7_fill_53178 11 = .ok (.iload_n 2, 1) := by decide +kernel
theorem dJ7_fill_53178_12 : decode cJ7_fill_53178 12 = .ok (.iload_n 1, 1) := by decide +kernel
theorem dJ7_fill_53178_13 : decode cJ7_fill_53178 13 = .ok (.iastore, 1) := by decide +kernel
theorem dJ7_fill_53178_14 : decode cJ7_fill_53178 14 = .ok (.iinc 2 1, 3) := by decide +kernel
theorem dJ7_fill_53178_17 : decode cJ7_fill_53178 17 = .ok (.goto (-12), 3) := by decide +kernel
theorem dJ7_fill_53178_20 : decode cJ7_fill_53178 20 = .ok (.return_, 1) := by decide +kernel
set_option maxRecDepth 20000 in
theorem ggJ7_copyOf_1904c_J7_copyOf_6403c : GoodIn wsJ7_copyOf_1904c wsJ7_copyOf_6403c := goodIn_r _ [8, 9, 10, 11, 12, 13, 14, 15, 16, 17, 18] (by decide +kernel) (by decide +kernel)
set_option maxRecDepth 20000 in
theorem gJ7_copyOf_1904c_J7_copyOf_6403c : GoodIn wsJ7_copyOf_1904c (va_wsS RJ7 300 yJ7_copyOf_6403c wsJ7_copyOf_6403c) := goodIn_app (goodIn_of _ (by decide +kernel)) ggJ7_copyOf_1904c_J7_copyOf_6403c
theorem dJ7_copyOf_1904c_0 : decode cJ7_copyOf_1904c 0 = .ok (.aload_n 0, 1) := by decide +kernel
theorem dJ7_copyOf_1904c_1 : decode cJ7_copyOf_1904c 1 = .ok (.iload_n 1, 1) := by decide +kernel
theorem dJ7_copyOf_1904c_2 : decode cJ7_copyOf_1904c 2 = .ok (.aload_n 0, 1) := by decide +kernel
theorem dJ7_copyOf_1904c_3 : decode cJ7_copyOf_1904c 3 = .ok (.invokevirtual 86, 3) := by decide +kernel
theorem dJ7_copyOf_1904c_6 : decode cJ7_copyOf_1904c 6 = .ok (.invokestatic 300, 3) := by decide +kernel
theorem dJ7_copyOf_1904c_9 : decode cJ7_copyOf_1904c 9 = .ok (.areturn, 1) := by decide +kernel
theorem dJ7_copyOf_6403c_0 : decode cJ7_copyOf_6403c 0 = .ok (.aload_n 2, 1) := by decide +kernel
theorem dJ7_copyOf_6403c_1 : decode cJ7_copyOf_6403c 1 = .ok (.ldc 110, 2) := by decide +kernel
theorem dJ7_copyOf_6403c_3 : decode cJ7_copyOf_6403c 3 = .ok (.if_acmp .ne 10, 3) := by decide +kernel
theorem dJ7_copyOf_6403c_6 : decode cJ7_copyOf_6403c 6 = .ok (.iload_n 1, 1) := by decide +kernel
theorem dJ7_copyOf_6403c_7 : decode cJ7_copyOf_6403c 7 = .ok (.anewarray 2, 3) := by decide +kernel
theorem dJ7_copyOf_6403c_10 : decode cJ7_copyOf_6403c 10 = .ok (.goto 14, 3) := by decide +kernel
theorem dJ7_copyOf_6403c_13 : decode cJ7_copyOf_6403c 13 = .ok (.aload_n 2, 1) := by decide +kernel
theorem dJ7_copyOf_6403c_14 : decode cJ7_copyOf_6403c 14 = .ok (.invokevirtual 90, 3) := by decide +kernel
theorem dJ7_copyOf_6403c_17 : decode cJ7_copyOf_6403c 17 = .ok (.iload_n 1, 1) := by decide +kernel
theorem dJ7_copyOf_6403c_18 : decode cJ7_copyOf_6403c 18 = .ok (.invokestatic 95, 3) := by decide +kernel
theorem dJ7_copyOf_6403c_21 : decode cJ7_copyOf_6403c 21 = .ok (.checkcast 110, 3) := by decide +kernel
theorem dJ7_copyOf_6403c_24 : decode cJ7_copyOf_6403c 24 = .ok (.astore_n 3, 1) := by decide +kernel
theorem dJ7_copyOf_6403c_25 : decode cJ7_copyOf_6403c 25 = .ok (.aload_n 0, 1) := by decide +kernel
theorem dJ7_copyOf_6403c_26 : decode cJ7_copyOf_6403c 26 = .ok (.iconst 0, 1) := by decide +kernel
theorem dJ7_copyOf_6403c_27 : decode cJ7_copyOf_6403c 27 = .ok (.aload_n 3, 1) := by decide +kernel
theorem dJ7_copyOf_6403c_28 : decode cJ7_copyOf_6403c 28 = .ok (.iconst 0, 1) := by decide +kernel
theorem dJ7_copyOf_6403c_29 : decode cJ7_copyOf_6403c 29 = .ok (.aload_n 0, 1) := by decide +kernel
theorem dJ7_copyOf_6403c_30 : decode cJ7_copyOf_6403c 30 = .ok (.arraylength, 1) := by decide +kernel
theorem dJ7_copyOf_6403c_31 : decode cJ7_copyOf_6403c 31 = .ok (.iload_n 1, 1) := by decide +kernel
theorem dJ7_copyOf_6403c_32 : decode cJ7_copyOf_6403c 32 = .ok (.invokestatic 304, 3) := by decide +kernel
theorem dJ7_copyOf_6403c_35 : decode cJ7_copyOf_6403c 35 = .ok (.invokestatic 150, 3) := by decide +kernel
theorem dJ7_copyOf_6403c_38 : decode cJ7_copyOf_6403c 38 = .ok (.aload_n 3, 1) := by decide +kernel
theorem dJ7_copyOf_6403c_39 : decode cJ7_copyOf_6403c 39 = .ok (.areturn, 1) := by decide +kernel
theorem dJ7_copyOf_59c91_0 : decode cJ7_copyOf_59c91 0 = .ok (.iload_n 1, 1) := by decide +kernel
theorem dJ7_copyOf_59c91_1 : decode cJ7_copyOf_59c91 1 = .ok (.aload_n 0, 1) := by decide +kernel
theorem dJ7_copyOf_59c91_2 : decode cJ7_copyOf_59c91 2 = .ok (.arraylength, 1) := by decide +kernel
theorem dJ7_copyOf_59c91_3 : decode cJ7_copyOf_59c91 3 = .ok (.if_icmp .ne 11, 3) := by decide +kernel
theorem dJ7_copyOf_59c91_6 : decode cJ7_copyOf_59c91 6 = .ok (.aload_n 0, 1) := by decide +kernel
theorem dJ7_copyOf_59c91_7 : decode cJ7_copyOf_59c91 7 = .ok (.invokevirtual 316, 3) := by decide +kernel
theorem dJ7_copyOf_59c91_10 : decode cJ7_copyOf_59c91 10 = .ok (.checkcast 317, 3) := by decide +kernel
theorem dJ7_copyOf_59c91_13 : decode cJ7_copyOf_59c91 13 = .ok (.areturn, 1) := by decide +kernel
theorem dJ7_copyOf_59c91_14 : decode cJ7_copyOf_59c91 14 = .ok (.iload_n 1, 1) := by decide +kernel
theorem dJ7_copyOf_59c91_15 : decode cJ7_copyOf_59c91 15 = .ok (.newarray .int, 2) := by decide +kernel
theorem dJ7_copyOf_59c91_17 : decode cJ7_copyOf_59c91 17 = .ok (.astore_n 2, 1) := by decide +kernel
theorem dJ7_copyOf_59c91_18 : decode cJ7_copyOf_59c91 18 = .ok (.aload_n 0, 1) := by decide +kernel
theorem dJ7_copyOf_59c91_19 : decode cJ7_copyOf_59c91 19 = .ok (.iconst 0, 1) := by decide +kernel
theorem dJ7_copyOf_59c91_20 : decode cJ7_copyOf_59c91 20 = .ok (.aload_n 2, 1) := by decide +kernel
theorem dJ7_copyOf_59c91_21 : decode cJ7_copyOf_59c91 21 = .ok (.iconst 0, 1) := by decide +kernel
theorem dJ7_copyOf_59c91_22 : decode cJ7_copyOf_59c91 22 = .ok (.aload_n 0, 1) := by decide +kernel
theorem dJ7_copyOf_59c91_23 : decode cJ7_copyOf_59c91 23 = .ok (.arraylength, 1) := by decide +kernel
theorem dJ7_copyOf_59c91_24 : decode cJ7_copyOf_59c91 24 = .ok (.iload_n 1, 1) := by decide +kernel
theorem dJ7_copyOf_59c91_25 : decode cJ7_copyOf_59c91 25 = .ok (.invokestatic 304, 3) := by decide +kernel
theorem dJ7_copyOf_59c91_28 : decode cJ7_copyOf_59c91 28 = .ok (.invokestatic 150, 3) := by decide +kernel
theorem dJ7_copyOf_59c91_31 : decode cJ7_copyOf_59c91 31 = .ok (.aload_n 2, 1) := by decide +kernel
theorem dJ7_copyOf_59c91_32 : decode cJ7_copyOf_59c91 32 = .ok (.areturn, 1) := by decide +kernel
set_option maxRecDepth 20000 in
theorem ggJ15_checkIndex_7cf53_J3_checkIndex_8e157 : GoodIn wsJ15_checkIndex_7cf53 wsJ3_checkIndex_8e157 := goodIn_r _ [4] (by decide +kernel) (by decide +kernel)
set_option maxRecDepth 20000 in
theorem gJ15_checkIndex_7cf53_J3_checkIndex_8e157 : GoodIn wsJ15_checkIndex_7cf53 (va_wsS RJ15 105 yJ3_checkIndex_8e157 wsJ3_checkIndex_8e157) := goodIn_app (goodIn_of _ (by decide +kernel)) ggJ15_checkIndex_7cf53_J3_checkIndex_8e157
theorem dJ15_checkIndex_7cf53_0 : decode cJ15_checkIndex_7cf53 0 = .ok (.iload_n 0, 1) := by decide +kernel
theorem dJ15_checkIndex_7cf53_1 : decode cJ15_checkIndex_7cf53 1 = .ok (.iload_n 1, 1) := by decide +kernel
theorem dJ15_checkIndex_7cf53_2 : decode cJ15_checkIndex_7cf53 2 = .ok (.aconst_null, 1) := by decide +kernel
theorem dJ15_checkIndex_7cf53_3 : decode cJ15_checkIndex_7cf53 3 = .ok (.invokestatic 105, 3) := by decide +kernel
theorem dJ15_checkIndex_7cf53_6 : decode cJ15_checkIndex_7cf53 6 = .ok (.ireturn, 1) := by decide +kernel
set_option maxRecDepth 20000 in
theorem ggJ8_newLength_cabcc_J8_hugeLength_7cf53 : GoodIn wsJ8_newLength_cabcc wsJ8_hugeLength_7cf53 := goodIn_r _ [9, 5] (by decide +kernel) (by decide +kernel)
set_option maxRecDepth 20000 in
theorem gJ8_newLength_cabcc_J8_hugeLength_7cf53 : GoodIn wsJ8_newLength_cabcc (va_wsS RJ8 201 yJ8_hugeLength_7cf53 wsJ8_hugeLength_7cf53) := goodIn_app (goodIn_of _ (by decide +kernel)) ggJ8_newLength_cabcc_J8_hugeLength_7cf53
theorem dJ8_newLength_cabcc_0 : decode cJ8_newLength_cabcc 0 = .ok (.iload_n 0, 1) := by decide +kernel
theorem dJ8_newLength_cabcc_1 : decode cJ8_newLength_cabcc 1 = .ok (.iload_n 1, 1) := by decide +kernel
theorem dJ8_newLength_cabcc_2 : decode cJ8_newLength_cabcc 2 = .ok (.iload_n 2, 1) := by decide +kernel
theorem dJ8_newLength_cabcc_3 : decode cJ8_newLength_cabcc 3 = .ok (.invokestatic 194, 3) := by decide +kernel
theorem dJ8_newLength_cabcc_6 : decode cJ8_newLength_cabcc 6 = .ok (.iadd, 1) := by decide +kernel
theorem dJ8_newLength_cabcc_7 : decode cJ8_newLength_cabcc 7 = .ok (.istore_n 3, 1) := by decide +kernel
theorem dJ8_newLength_cabcc_8 : decode cJ8_newLength_cabcc 8 = .ok (.iconst 0, 1) := by decide +kernel
theorem dJ8_newLength_cabcc_9 : decode cJ8_newLength_cabcc 9 = .ok (.iload_n 3, 1) := by decide +kernel
theorem dJ8_newLength_cabcc_10 : decode cJ8_newLength_cabcc 10 = .ok (.if_icmp .ge 11, 3) := by decide +kernel
theorem dJ8_newLength_cabcc_13 : decode cJ8_newLength_cabcc 13 = .ok (.iload_n 3, 1) := by decide +kernel
theorem dJ8_newLength_cabcc_14 : decode cJ8_newLength_cabcc 14 = .ok (.ldc 200, 2) := by decide +kernel
theorem dJ8_newLength_cabcc_16 : decode cJ8_newLength_cabcc 16 = .ok (.if_icmp .gt 5, 3) := by decide +kernel
theorem dJ8_newLength_cabcc_19 : decode cJ8_newLength_cabcc 19 = .ok (.iload_n 3, 1) := by decide +kernel
theorem dJ8_newLength_cabcc_20 : decode cJ8_newLength_cabcc 20 = .ok (.ireturn, 1) := by decide +kernel
theorem dJ8_newLength_cabcc_21 : decode cJ8_newLength_cabcc 21 = .ok (.iload_n 0, 1) := by decide +kernel
theorem dJ8_newLength_cabcc_22 : decode cJ8_newLength_cabcc 22 = .ok (.iload_n 1, 1) := by decide +kernel
theorem dJ8_newLength_cabcc_23 : decode cJ8_newLength_cabcc 23 = .ok (.invokestatic 201, 3) := by decide +kernel
theorem dJ8_newLength_cabcc_26 : decode cJ8_newLength_cabcc 26 = .ok (.ireturn, 1) := by decide +kernel
theorem dJ8_hugeLength_7cf53_0 : decode cJ8_hugeLength_7cf53 0 = .ok (.iload_n 0, 1) := by decide +kernel
theorem dJ8_hugeLength_7cf53_1 : decode cJ8_hugeLength_7cf53 1 = .ok (.iload_n 1, 1) := by decide +kernel
theorem dJ8_hugeLength_7cf53_2 : decode cJ8_hugeLength_7cf53 2 = .ok (.iadd, 1) := by decide +kernel
theorem dJ8_hugeLength_7cf53_3 : decode cJ8_hugeLength_7cf53 3 = .ok (.istore_n 2, 1) := by decide +kernel
theorem dJ8_hugeLength_7cf53_4 : decode cJ8_hugeLength_7cf53 4 = .ok (.iload_n 2, 1) := by decide +kernel
theorem dJ8_hugeLength_7cf53_5 : decode cJ8_hugeLength_7cf53 5 = .ok (.ifCond .ge 44, 3) := by decide +kernel
theorem dJ8_hugeLength_7cf53_8 : decode cJ8_hugeLength_7cf53 8 = .ok (.new 204, 3) := by decide +kernel
theorem dJ8_hugeLength_7cf53_11 : decode cJ8_hugeLength_7cf53 11 = .ok (.dup, 1) := by decide +kernel
theorem dJ8_hugeLength_7cf53_12 : decode cJ8_hugeLength_7cf53 12 = .ok (.new 89, 3) := by decide +kernel
theorem dJ8_hugeLength_7cf53_15 : decode cJ8_hugeLength_7cf53 15 = .ok (.dup, 1) := by decide +kernel
theorem dJ8_hugeLength_7cf53_16 : decode cJ8_hugeLength_7cf53 16 = .ok (.invokespecial 91, 3) := by decide +kernel
theorem dJ8_hugeLength_7cf53_19 : decode cJ8_hugeLength_7cf53 19 = .ok (.ldc 206, 2) := by decide +kernel
theorem dJ8_hugeLength_7cf53_21 : decode cJ8_hugeLength_7cf53 21 = .ok (.invokevirtual 94, 3) := by decide +kernel
theorem dJ8_hugeLength_7cf53_24 : decode cJ8_hugeLength_7cf53 24 = .ok (.iload_n 0, 1) := by decide +kernel
theorem dJ8_hugeLength_7cf53_25 : decode cJ8_hugeLength_7cf53 25 = .ok (.invokevirtual 98, 3) := by decide +kernel
theorem dJ8_hugeLength_7cf53_28 : decode cJ8_hugeLength_7cf53 28 = .ok (.ldc 208, 2) := by decide +kernel
theorem dJ8_hugeLength_7cf53_30 : decode cJ8_hugeLength_7cf53 30 = .ok (.invokevirtual 94, 3) := by decide +kernel
theorem dJ8_hugeLength_7cf53_33 : decode cJ8_hugeLength_7cf53 33 = .ok (.iload_n 1, 1) := by decide +kernel
theorem dJ8_hugeLength_7cf53_34 : decode cJ8_hugeLength_7cf53 34 = .ok (.invokevirtual 98, 3) := by decide +kernel
theorem dJ8_hugeLength_7cf53_37 : decode cJ8_hugeLength_7cf53 37 = .ok (.ldc 210, 2) := by decide +kernel
theorem dJ8_hugeLength_7cf53_39 : decode cJ8_hugeLength_7cf53 39 = .ok (.invokevirtual 94, 3) := by decide +kernel
theorem dJ8_hugeLength_7cf53_42 : decode cJ8_hugeLength_7cf53 42 = .ok (.invokevirtual 101, 3) := by decide +kernel
theorem dJ8_hugeLength_7cf53_45 : decode cJ8_hugeLength_7cf53 45 = .ok (.invokespecial 212, 3) := by decide +kernel
theorem dJ8_hugeLength_7cf53_48 : decode cJ8_hugeLength_7cf53 48 = .ok (.athrow, 1) := by decide +kernel
theorem dJ8_hugeLength_7cf53_49 : decode cJ8_hugeLength_7cf53 49 = .ok (.iload_n 2, 1) := by decide +kernel
theorem dJ8_hugeLength_7cf53_50 : decode cJ8_hugeLength_7cf53 50 = .ok (.ldc 200, 2) := by decide +kernel
theorem dJ8_hugeLength_7cf53_52 : decode cJ8_hugeLength_7cf53 52 = .ok (.if_icmp .gt 6, 3) := by decide +kernel
theorem dJ8_hugeLength_7cf53_55 : decode cJ8_hugeLength_7cf53 55 = .ok (.ldc 200, 2) := by decide +kernel
theorem dJ8_hugeLength_7cf53_57 : decode cJ8_hugeLength_7cf53 57 = .ok (.ireturn, 1) := by decide +kernel
theorem dJ8_hugeLength_7cf53_58 : decode cJ8_hugeLength_7cf53 58 = .ok (.iload_n 2, 1) := by decide +kernel
theorem dJ8_hugeLength_7cf53_59 : decode cJ8_hugeLength_7cf53 59 = .ok (.ireturn, 1) := by decide +kernel
theorem dJ3_checkIndex_8e157_0 : decode cJ3_checkIndex_8e157 0 = .ok (.iload_n 0, 1) := by decide +kernel
theorem dJ3_checkIndex_8e157_1 : decode cJ3_checkIndex_8e157 1 = .ok (.ifCond .lt 8, 3) := by decide +kernel
theorem dJ3_checkIndex_8e157_4 : decode cJ3_checkIndex_8e157 4 = .ok (.iload_n 0, 1) := by decide +kernel
theorem dJ3_checkIndex_8e157_5 : decode cJ3_checkIndex_8e157 5 = .ok (.iload_n 1, 1) := by decide +kernel
theorem dJ3_checkIndex_8e157_6 : decode cJ3_checkIndex_8e157 6 = .ok (.if_icmp .lt 10, 3) := by decide +kernel
theorem dJ3_checkIndex_8e157_9 : decode cJ3_checkIndex_8e157 9 = .ok (.aload_n 2, 1) := by decide +kernel
theorem dJ3_checkIndex_8e157_10 : decode cJ3_checkIndex_8e157 10 = .ok (.iload_n 0, 1) := by decide +kernel
theorem dJ3_checkIndex_8e157_11 : decode cJ3_checkIndex_8e157 11 = .ok (.iload_n 1, 1) := by decide +kernel
theorem dJ3_checkIndex_8e157_12 : decode cJ3_checkIndex_8e157 12 = .ok (.invokestatic 95, 3) := by decide +kernel
theorem dJ3_checkIndex_8e157_15 : decode cJ3_checkIndex_8e157 15 = .ok (.athrow, 1) := by decide +kernel
theorem dJ3_checkIndex_8e157_16 : decode cJ3_checkIndex_8e157 16 = .ok (.iload_n 0, 1) := by decide +kernel
theorem dJ3_checkIndex_8e157_17 : decode cJ3_checkIndex_8e157 17 = .ok (.ireturn, 1) := by decide +kernel
end
section
set_option maxRecDepth 20000 in
theorem ggL_feed_X2_feed : GoodIn wsL_feed wsX2_feed := goodIn_ca (goodIn_ca (goodIn_r _ [7, 8, 9, 10, 11, 12, 13, 14, 15, 16, 17, 18, 19, 20, 21] (by decide +kernel) (by decide +kernel)) (goodIn_sub (fun _ h => List.mem_cons_of_mem _ (List.mem_append_left _ (List.mem_append_right _ h))) (by decide +kernel))) (goodIn_sub (fun _ h => List.mem_cons_of_mem _ (List.mem_append_right _ h)) (by decide +kernel))
set_option maxRecDepth 20000 in
theorem gL_feed_X2_feed : GoodIn wsL_feed (wsV RL 7 RX2 yX2_feed wsX2_feed) := goodIn_app (goodIn_of _ (by decide +kernel)) ggL_feed_X2_feed
theorem dL_feed_0 : decode cL_feed 0 = .ok (.aload 4, 2) := by decide +kernel
theorem dL_feed_2 : decode cL_feed 2 = .ok (.iconst 0, 1) := by decide +kernel
theorem dL_feed_3 : decode cL_feed 3 = .ok (.aload_n 0, 1) := by decide +kernel
theorem dL_feed_4 : decode cL_feed 4 = .ok (.lload_n 1, 1) := by decide +kernel
theorem dL_feed_5 : decode cL_feed 5 = .ok (.iload_n 3, 1) := by decide +kernel
theorem dL_feed_6 : decode cL_feed 6 = .ok (.invokevirtual 7, 3) := by decide +kernel
theorem dL_feed_9 : decode cL_feed 9 = .ok (.i2l, 1) := by decide +kernel
theorem dL_feed_10 : decode cL_feed 10 = .ok (.lastore, 1) := by decide +kernel
theorem dL_feed_11 : decode cL_feed 11 = .ok (.goto 11, 3) := by decide +kernel
theorem dL_feed_14 : decode cL_feed 14 = .ok (.astore 5, 2) := by decide +kernel
theorem dL_feed_16 : decode cL_feed 16 = .ok (.iconst 1, 1) := by decide +kernel
theorem dL_feed_17 : decode cL_feed 17 = .ok (.ireturn, 1) := by decide +kernel
theorem dL_feed_18 : decode cL_feed 18 = .ok (.astore 5, 2) := by decide +kernel
theorem dL_feed_20 : decode cL_feed 20 = .ok (.iconst 2, 1) := by decide +kernel
theorem dL_feed_21 : decode cL_feed 21 = .ok (.ireturn, 1) := by decide +kernel
theorem dL_feed_22 : decode cL_feed 22 = .ok (.iconst 0, 1) := by decide +kernel
theorem dL_feed_23 : decode cL_feed 23 = .ok (.ireturn, 1) := by decide +kernel
set_option maxRecDepth 20000 in
theorem ggL_store_X2_store : GoodIn wsL_store wsX2_store := goodIn_ca (goodIn_r _ [6, 7, 8, 9, 10, 11, 12, 13, 14, 15, 5, 16, 17, 18, 19, 20, 21, 22, 23, 24, 25, 26, 27, 28, 29, 30, 31, 32, 33, 34, 35, 36, 37, 38, 39, 40, 41, 42, 43, 44, 45, 46, 47, 48, 49, 50, 51, 52, 53, 54, 55, 56, 57, 58, 59, 60, 61, 62, 63, 64, 65, 66, 67, 68, 69, 70, 71, 72, 73, 74, 75, 76, 77, 78, 79, 80, 81, 82, 83, 84, 85, 86, 87, 88, 89, 90, 91, 92, 93, 94, 95, 96, 97, 98, 99, 100, 101, 102, 103, 104, 105, 106, 107] (by decide +kernel) (by decide +kernel)) (goodIn_sub (fun _ h => List.mem_cons_of_mem _ (List.mem_append_right _ h)) (by decide +kernel))
set_option maxRecDepth 20000 in
theorem gL_store_X2_store : GoodIn wsL_store (wsV RL 17 RX2 yX2_store wsX2_store) := goodIn_app (goodIn_of _ (by decide +kernel)) ggL_store_X2_store
theorem dL_store_0 : decode cL_store 0 = .ok (.aload_n 1, 1) := by decide +kernel
theorem dL_store_1 : decode cL_store 1 = .ok (.iconst 0, 1) := by decide +kernel
theorem dL_store_2 : decode cL_store 2 = .ok (.aload_n 0, 1) := by decide +kernel
theorem dL_store_3 : decode cL_store 3 = .ok (.invokevirtual 17, 3) := by decide +kernel
theorem dL_store_6 : decode cL_store 6 = .ok (.i2l, 1) := by decide +kernel
theorem dL_store_7 : decode cL_store 7 = .ok (.lastore, 1) := by decide +kernel
theorem dL_store_8 : decode cL_store 8 = .ok (.goto 6, 3) := by decide +kernel
theorem dL_store_11 : decode cL_store 11 = .ok (.astore_n 2, 1) := by decide +kernel
theorem dL_store_12 : decode cL_store 12 = .ok (.iconst 1, 1) := by decide +kernel
theorem dL_store_13 : decode cL_store 13 = .ok (.ireturn, 1) := by decide +kernel
theorem dL_store_14 : decode cL_store 14 = .ok (.iconst 0, 1) := by decide +kernel
theorem dL_store_15 : decode cL_store 15 = .ok (.ireturn, 1) := by decide +kernel
set_option maxRecDepth 20000 in
theorem ggL_length_X2_length : GoodIn wsL_length wsX2_length := goodIn_ca (goodIn_r _ [6, 7, 8, 9, 10, 5, 11, 12, 13, 14, 15, 16, 17, 18, 19, 20, 21, 22, 23, 24, 25, 26, 27, 28, 29, 30, 31, 32, 33, 34, 35, 36, 37, 38, 39, 40, 41, 42, 43, 44, 45, 46, 47, 48, 49, 50] (by decide +kernel) (by decide +kernel)) (goodIn_sub (fun _ h => List.mem_cons_of_mem _ (List.mem_append_right _ h)) (by decide +kernel))
set_option maxRecDepth 20000 in
theorem gL_length_X2_length : GoodIn wsL_length (wsV RL 21 RX2 yX2_length wsX2_length) := goodIn_app (goodIn_of _ (by decide +kernel)) ggL_length_X2_length
theorem dL_length_0 : decode cL_length 0 = .ok (.aload_n 2, 1) := by decide +kernel
theorem dL_length_1 : decode cL_length 1 = .ok (.iconst 0, 1) := by decide +kernel
theorem dL_length_2 : decode cL_length 2 = .ok (.aload_n 0, 1) := by decide +kernel
theorem dL_length_3 : decode cL_length 3 = .ok (.iload_n 1, 1) := by decide +kernel
theorem dL_length_4 : decode cL_length 4 = .ok (.invokevirtual 21, 3) := by decide +kernel
theorem dL_length_7 : decode cL_length 7 = .ok (.i2l, 1) := by decide +kernel
theorem dL_length_8 : decode cL_length 8 = .ok (.lastore, 1) := by decide +kernel
theorem dL_length_9 : decode cL_length 9 = .ok (.goto 6, 3) := by decide +kernel
theorem dL_length_12 : decode cL_length 12 = .ok (.astore_n 3, 1) := by decide +kernel
theorem dL_length_13 : decode cL_length 13 = .ok (.iconst 1, 1) := by decide +kernel
theorem dL_length_14 : decode cL_length 14 = .ok (.ireturn, 1) := by decide +kernel
theorem dL_length_15 : decode cL_length 15 = .ok (.iconst 0, 1) := by decide +kernel
theorem dL_length_16 : decode cL_length 16 = .ok (.ireturn, 1) := by decide +kernel
set_option maxRecDepth 20000 in
theorem ggL_byteAt_X2_byteAt : GoodIn wsL_byteAt wsX2_byteAt := goodIn_ca (goodIn_r _ [6, 7, 8, 9, 10, 11, 12, 5, 13, 14, 15, 16, 17, 18, 19, 20, 21, 22, 23, 24, 25, 26, 27, 28, 29, 30, 31, 32, 33, 34, 35, 36, 37, 38, 39, 40, 41, 42, 43, 44, 45, 46, 47, 48, 49, 50] (by decide +kernel) (by decide +kernel)) (goodIn_sub (fun _ h => List.mem_cons_of_mem _ (List.mem_append_right _ h)) (by decide +kernel))
set_option maxRecDepth 20000 in
theorem gL_byteAt_X2_byteAt : GoodIn wsL_byteAt (wsV RL 27 RX2 yX2_byteAt wsX2_byteAt) := goodIn_app (goodIn_of _ (by decide +kernel)) ggL_byteAt_X2_byteAt
theorem dL_byteAt_0 : decode cL_byteAt 0 = .ok (.aload_n 3, 1) := by decide +kernel
theorem dL_byteAt_1 : decode cL_byteAt 1 = .ok (.iconst 0, 1) := by decide +kernel
theorem dL_byteAt_2 : decode cL_byteAt 2 = .ok (.aload_n 0, 1) := by decide +kernel
theorem dL_byteAt_3 : decode cL_byteAt 3 = .ok (.iload_n 1, 1) := by decide +kernel
theorem dL_byteAt_4 : decode cL_byteAt 4 = .ok (.iload_n 2, 1) := by decide +kernel
theorem dL_byteAt_5 : decode cL_byteAt 5 = .ok (.invokevirtual 27, 3) := by decide +kernel
theorem dL_byteAt_8 : decode cL_byteAt 8 = .ok (.i2l, 1) := by decide +kernel
theorem dL_byteAt_9 : decode cL_byteAt 9 = .ok (.lastore, 1) := by decide +kernel
theorem dL_byteAt_10 : decode cL_byteAt 10 = .ok (.goto 7, 3) := by decide +kernel
theorem dL_byteAt_13 : decode cL_byteAt 13 = .ok (.astore 4, 2) := by decide +kernel
theorem dL_byteAt_15 : decode cL_byteAt 15 = .ok (.iconst 1, 1) := by decide +kernel
theorem dL_byteAt_16 : decode cL_byteAt 16 = .ok (.ireturn, 1) := by decide +kernel
theorem dL_byteAt_17 : decode cL_byteAt 17 = .ok (.iconst 0, 1) := by decide +kernel
theorem dL_byteAt_18 : decode cL_byteAt 18 = .ok (.ireturn, 1) := by decide +kernel
set_option maxRecDepth 20000 in
theorem ggL_areSame_X2_areSame : GoodIn wsL_areSame wsX2_areSame := goodIn_ca (goodIn_r _ [6, 7, 8, 9, 5, 10, 11, 12, 13, 14, 15, 16, 17, 18, 19, 20, 21, 22, 23, 24, 25, 26, 27, 28, 29, 30, 31, 32, 33, 34, 35, 36, 37, 38, 39, 40, 41, 42, 43, 44, 45, 46, 47, 48, 49, 50, 51, 52, 53, 54, 55, 56, 57, 58, 59] (by decide +kernel) (by decide +kernel)) (goodIn_sub (fun _ h => List.mem_cons_of_mem _ (List.mem_append_right _ h)) (by decide +kernel))
set_option maxRecDepth 20000 in
theorem gL_areSame_X2_areSame : GoodIn wsL_areSame (wsV RL 31 RX2 yX2_areSame wsX2_areSame) := goodIn_app (goodIn_of _ (by decide +kernel)) ggL_areSame_X2_areSame
theorem dL_areSame_0 : decode cL_areSame 0 = .ok (.aload_n 3, 1) := by decide +kernel
theorem dL_areSame_1 : decode cL_areSame 1 = .ok (.iconst 0, 1) := by decide +kernel
theorem dL_areSame_2 : decode cL_areSame 2 = .ok (.aload_n 0, 1) := by decide +kernel
theorem dL_areSame_3 : decode cL_areSame 3 = .ok (.iload_n 1, 1) := by decide +kernel
theorem dL_areSame_4 : decode cL_areSame 4 = .ok (.iload_n 2, 1) := by decide +kernel
theorem dL_areSame_5 : decode cL_areSame 5 = .ok (.invokevirtual 31, 3) := by decide +kernel
theorem dL_areSame_8 : decode cL_areSame 8 = .ok (.ifCond .eq 7, 3) := by decide +kernel
theorem dL_areSame_11 : decode cL_areSame 11 = .ok (.lconst 1, 1) := by decide +kernel
theorem dL_areSame_12 : decode cL_areSame 12 = .ok (.goto 4, 3) := by decide +kernel
theorem dL_areSame_15 : decode cL_areSame 15 = .ok (.lconst 0, 1) := by decide +kernel
theorem dL_areSame_16 : decode cL_areSame 16 = .ok (.lastore, 1) := by decide +kernel
theorem dL_areSame_17 : decode cL_areSame 17 = .ok (.goto 7, 3) := by decide +kernel
theorem dL_areSame_20 : decode cL_areSame 20 = .ok (.astore 4, 2) := by decide +kernel
theorem dL_areSame_22 : decode cL_areSame 22 = .ok (.iconst 1, 1) := by decide +kernel
theorem dL_areSame_23 : decode cL_areSame 23 = .ok (.ireturn, 1) := by decide +kernel
theorem dL_areSame_24 : decode cL_areSame 24 = .ok (.iconst 0, 1) := by decide +kernel
theorem dL_areSame_25 : decode cL_areSame 25 = .ok (.ireturn, 1) := by decide +kernel
set_option maxRecDepth 20000 in
theorem ggL_weakSum_X2_weakSum : GoodIn wsL_weakSum wsX2_weakSum := goodIn_ca (goodIn_ca (goodIn_r _ [7, 8, 9, 10, 11, 12, 13, 6, 14, 15, 16, 17, 18, 19, 20, 21, 22, 23, 24, 25, 26, 27, 28, 29, 30, 31, 32, 33, 34, 35, 36, 37, 38, 39, 40, 41, 42, 43, 44, 45, 46, 47, 48, 49, 50, 51, 52, 53, 54, 55, 56, 57, 58, 59] (by decide +kernel) (by decide +kernel)) (goodIn_sub (fun _ h => List.mem_cons_of_mem _ (List.mem_append_left _ (List.mem_append_right _ h))) (by decide +kernel))) (goodIn_sub (fun _ h => List.mem_cons_of_mem _ (List.mem_append_right _ h)) (by decide +kernel))
set_option maxRecDepth 20000 in
theorem gL_weakSum_X2_weakSum : GoodIn wsL_weakSum (wsV RL 35 RX2 yX2_weakSum wsX2_weakSum) := goodIn_app (goodIn_of _ (by decide +kernel)) ggL_weakSum_X2_weakSum
theorem dL_weakSum_0 : decode cL_weakSum 0 = .ok (.aload 4, 2) := by decide +kernel
theorem dL_weakSum_2 : decode cL_weakSum 2 = .ok (.iconst 0, 1) := by decide +kernel
theorem dL_weakSum_3 : decode cL_weakSum 3 = .ok (.aload_n 0, 1) := by decide +kernel
theorem dL_weakSum_4 : decode cL_weakSum 4 = .ok (.iload_n 1, 1) := by decide +kernel
theorem dL_weakSum_5 : decode cL_weakSum 5 = .ok (.iload_n 2, 1) := by decide +kernel
theorem dL_weakSum_6 : decode cL_weakSum 6 = .ok (.iload_n 3, 1) := by decide +kernel
theorem dL_weakSum_7 : decode cL_weakSum 7 = .ok (.invokevirtual 35, 3) := by decide +kernel
theorem dL_weakSum_10 : decode cL_weakSum 10 = .ok (.i2l, 1) := by decide +kernel
theorem dL_weakSum_11 : decode cL_weakSum 11 = .ok (.lastore, 1) := by decide +kernel
theorem dL_weakSum_12 : decode cL_weakSum 12 = .ok (.goto 11, 3) := by decide +kernel
theorem dL_weakSum_15 : decode cL_weakSum 15 = .ok (.astore 5, 2) := by decide +kernel
theorem dL_weakSum_17 : decode cL_weakSum 17 = .ok (.iconst 1, 1) := by decide +kernel
theorem dL_weakSum_18 : decode cL_weakSum 18 = .ok (.ireturn, 1) := by decide +kernel
theorem dL_weakSum_19 : decode cL_weakSum 19 = .ok (.astore 5, 2) := by decide +kernel
theorem dL_weakSum_21 : decode cL_weakSum 21 = .ok (.iconst 2, 1) := by decide +kernel
theorem dL_weakSum_22 : decode cL_weakSum 22 = .ok (.ireturn, 1) := by decide +kernel
theorem dL_weakSum_23 : decode cL_weakSum 23 = .ok (.iconst 0, 1) := by decide +kernel
theorem dL_weakSum_24 : decode cL_weakSum 24 = .ok (.ireturn, 1) := by decide +kernel
set_option maxRecDepth 20000 in
theorem ggL_collisions_X2_collisions : GoodIn wsL_collisions wsX2_collisions := goodIn_ca (goodIn_ca (goodIn_r _ [7, 8, 9, 10, 11, 12, 6, 13, 14, 15, 16, 17, 18, 19, 20, 21, 22, 23, 24, 25, 26, 27, 28, 29, 30, 31, 32, 33, 34, 35, 36, 37, 38, 39, 40, 41, 42, 43, 44, 45, 46, 47, 48, 49, 50, 51, 52, 53, 54, 55, 56, 57, 58, 59, 60, 61, 62, 63, 64, 65, 66, 67] (by decide +kernel) (by decide +kernel)) (goodIn_sub (fun _ h => List.mem_cons_of_mem _ (List.mem_append_left _ (List.mem_append_right _ h))) (by decide +kernel))) (goodIn_sub (fun _ h => List.mem_cons_of_mem _ (List.mem_append_right _ h)) (by decide +kernel))
set_option maxRecDepth 20000 in
theorem gL_collisions_X2_collisions : GoodIn wsL_collisions (wsV RL 39 RX2 yX2_collisions wsX2_collisions) := goodIn_app (goodIn_of _ (by decide +kernel)) ggL_collisions_X2_collisions
theorem dL_collisions_0 : decode cL_collisions 0 = .ok (.aload_n 3, 1) := by decide +kernel
theorem dL_collisions_1 : decode cL_collisions 1 = .ok (.iconst 0, 1) := by decide +kernel
theorem dL_collisions_2 : decode cL_collisions 2 = .ok (.aload_n 0, 1) := by decide +kernel
theorem dL_collisions_3 : decode cL_collisions 3 = .ok (.iload_n 1, 1) := by decide +kernel
theorem dL_collisions_4 : decode cL_collisions 4 = .ok (.iload_n 2, 1) := by decide +kernel
theorem dL_collisions_5 : decode cL_collisions 5 = .ok (.invokevirtual 39, 3) := by decide +kernel
theorem dL_collisions_8 : decode cL_collisions 8 = .ok (.i2l, 1) := by decide +kernel
theorem dL_collisions_9 : decode cL_collisions 9 = .ok (.lastore, 1) := by decide +kernel
theorem dL_collisions_10 : decode cL_collisions 10 = .ok (.goto 11, 3) := by decide +kernel
theorem dL_collisions_13 : decode cL_collisions 13 = .ok (.astore 4, 2) := by decide +kernel
theorem dL_collisions_15 : decode cL_collisions 15 = .ok (.iconst 1, 1) := by decide +kernel
theorem dL_collisions_16 : decode cL_collisions 16 = .ok (.ireturn, 1) := by decide +kernel
theorem dL_collisions_17 : decode cL_collisions 17 = .ok (.astore 4, 2) := by decide +kernel
theorem dL_collisions_19 : decode cL_collisions 19 = .ok (.iconst 2, 1) := by decide +kernel
theorem dL_collisions_20 : decode cL_collisions 20 = .ok (.ireturn, 1) := by decide +kernel
theorem dL_collisions_21 : decode cL_collisions 21 = .ok (.iconst 0, 1) := by decide +kernel
theorem dL_collisions_22 : decode cL_collisions 22 = .ok (.ireturn, 1) := by decide +kernel
set_option maxRecDepth 20000 in
theorem ggL_differentBlocks_X2_differentBlocks : GoodIn wsL_differentBlocks wsX2_differentBlocks := goodIn_ca (goodIn_ca (goodIn_r _ [7, 8, 9, 10, 11, 6, 12, 13, 14, 15, 16, 17, 18, 19, 20, 21, 22, 23, 24, 25, 26, 27, 28, 29, 30, 31, 32, 33, 34, 35, 36, 37, 38, 39, 40, 41, 42, 43, 44, 45, 46, 47, 48, 49, 50, 51, 52, 53, 54, 55, 56, 57, 58, 59, 60, 61, 62, 63, 64, 65] (by decide +kernel) (by decide +kernel)) (goodIn_sub (fun _ h => List.mem_cons_of_mem _ (List.mem_append_left _ (List.mem_append_right _ h))) (by decide +kernel))) (goodIn_sub (fun _ h => List.mem_cons_of_mem _ (List.mem_append_right _ h)) (by decide +kernel))
set_option maxRecDepth 20000 in
theorem gL_differentBlocks_X2_differentBlocks : GoodIn wsL_differentBlocks (wsV RL 42 RX2 yX2_differentBlocks wsX2_differentBlocks) := goodIn_app (goodIn_of _ (by decide +kernel)) ggL_differentBlocks_X2_differentBlocks
theorem dL_differentBlocks_0 : decode cL_differentBlocks 0 = .ok (.aload_n 3, 1) := by decide +kernel
theorem dL_differentBlocks_1 : decode cL_differentBlocks 1 = .ok (.iconst 0, 1) := by decide +kernel
theorem dL_differentBlocks_2 : decode cL_differentBlocks 2 = .ok (.aload_n 0, 1) := by decide +kernel
theorem dL_differentBlocks_3 : decode cL_differentBlocks 3 = .ok (.iload_n 1, 1) := by decide +kernel
theorem dL_differentBlocks_4 : decode cL_differentBlocks 4 = .ok (.iload_n 2, 1) := by decide +kernel
theorem dL_differentBlocks_5 : decode cL_differentBlocks 5 = .ok (.invokevirtual 42, 3) := by decide +kernel
theorem dL_differentBlocks_8 : decode cL_differentBlocks 8 = .ok (.i2l, 1) := by decide +kernel
theorem dL_differentBlocks_9 : decode cL_differentBlocks 9 = .ok (.lastore, 1) := by decide +kernel
theorem dL_differentBlocks_10 : decode cL_differentBlocks 10 = .ok (.goto 11, 3) := by decide +kernel
theorem dL_differentBlocks_13 : decode cL_differentBlocks 13 = .ok (.astore 4, 2) := by decide +kernel
theorem dL_differentBlocks_15 : decode cL_differentBlocks 15 = .ok (.iconst 1, 1) := by decide +kernel
theorem dL_differentBlocks_16 : decode cL_differentBlocks 16 = .ok (.ireturn, 1) := by decide +kernel
theorem dL_differentBlocks_17 : decode cL_differentBlocks 17 = .ok (.astore 4, 2) := by decide +kernel
theorem dL_differentBlocks_19 : decode cL_differentBlocks 19 = .ok (.iconst 2, 1) := by decide +kernel
theorem dL_differentBlocks_20 : decode cL_differentBlocks 20 = .ok (.ireturn, 1) := by decide +kernel
theorem dL_differentBlocks_21 : decode cL_differentBlocks 21 = .ok (.iconst 0, 1) := by decide +kernel
theorem dL_differentBlocks_22 : decode cL_differentBlocks 22 = .ok (.ireturn, 1) := by decide +kernel
set_option maxRecDepth 20000 in
theorem ggL_difference_X2_difference : GoodIn wsL_difference wsX2_difference := goodIn_ca (goodIn_ca (goodIn_ca (goodIn_r _ [8, 9, 10, 11, 12, 13, 14, 15, 7, 16, 17, 18, 19, 20, 21, 22, 23, 24, 25, 26, 27, 28, 29, 30, 31, 32, 33, 34, 35, 36, 37, 38, 39, 40, 41, 42, 43, 44, 45, 46, 47, 48, 49, 50, 51, 52, 53, 54, 55, 56, 57, 58, 59, 60, 61, 62, 63, 64, 65, 66, 67, 68, 69, 70, 71, 72, 73, 74, 75, 76, 77, 78, 79, 80, 81, 82, 83, 84, 85, 86, 87, 88, 89, 90, 91, 92, 93, 94, 95, 96, 97, 98, 99, 100, 101, 102, 103, 104, 105, 106, 107, 108, 109, 110, 111, 112, 113, 114, 115, 116, 117, 118, 119, 120, 121, 122, 123, 124, 125, 126, 127, 128, 129, 130, 131, 132, 133, 134, 135, 136, 137, 138, 139, 140, 141, 142, 143, 144, 145, 146, 147, 148, 149, 150, 151, 152, 153, 154, 155, 156, 157, 158, 159, 160, 161, 162, 163, 164, 165, 166, 167, 168, 169, 170, 171, 172, 173, 174, 175, 176, 177, 178, 179, 180, 181, 182, 183, 184, 185, 186] (by decide +kernel) (by decide +kernel)) (goodIn_sub (fun _ h => List.mem_cons_of_mem _ (List.mem_append_left _ (List.mem_append_left _ (List.mem_append_right _ h)))) (by decide +kernel))) (goodIn_sub (fun _ h => List.mem_cons_of_mem _ (List.mem_append_left _ (List.mem_append_right _ h))) (by decide +kernel))) (goodIn_sub (fun _ h => List.mem_cons_of_mem _ (List.mem_append_right _ h)) (by decide +kernel))
set_option maxRecDepth 20000 in
theorem gL_difference_X2_difference : GoodIn wsL_difference (wsV RL 45 RX2 yX2_difference wsX2_difference) := goodIn_app (goodIn_of _ (by decide +kernel)) ggL_difference_X2_difference
theorem dL_difference_0 : decode cL_difference 0 = .ok (.aload 4, 2) := by decide +kernel
theorem dL_difference_2 : decode cL_difference 2 = .ok (.iconst 0, 1) := by decide +kernel
theorem dL_difference_3 : decode cL_difference 3 = .ok (.aload_n 0, 1) := by decide +kernel
theorem dL_difference_4 : decode cL_difference 4 = .ok (.iload_n 1, 1) := by decide +kernel
theorem dL_difference_5 : decode cL_difference 5 = .ok (.iload_n 2, 1) := by decide +kernel
theorem dL_difference_6 : decode cL_difference 6 = .ok (.iload_n 3, 1) := by decide +kernel
theorem dL_difference_7 : decode cL_difference 7 = .ok (.invokevirtual 45, 3) := by decide +kernel
theorem dL_difference_10 : decode cL_difference 10 = .ok (.i2l, 1) := by decide +kernel
theorem dL_difference_11 : decode cL_difference 11 = .ok (.lastore, 1) := by decide +kernel
theorem dL_difference_12 : decode cL_difference 12 = .ok (.goto 15, 3) := by decide +kernel
theorem dL_difference_15 : decode cL_difference 15 = .ok (.astore 5, 2) := by decide +kernel
theorem dL_difference_17 : decode cL_difference 17 = .ok (.iconst 1, 1) := by decide +kernel
theorem dL_difference_18 : decode cL_difference 18 = .ok (.ireturn, 1) := by decide +kernel
theorem dL_difference_19 : decode cL_difference 19 = .ok (.astore 5, 2) := by decide +kernel
theorem dL_difference_21 : decode cL_difference 21 = .ok (.iconst 2, 1) := by decide +kernel
theorem dL_difference_22 : decode cL_difference 22 = .ok (.ireturn, 1) := by decide +kernel
theorem dL_difference_23 : decode cL_difference 23 = .ok (.astore 5, 2) := by decide +kernel
theorem dL_difference_25 : decode cL_difference 25 = .ok (.iconst 3, 1) := by decide +kernel
theorem dL_difference_26 : decode cL_difference 26 = .ok (.ireturn, 1) := by decide +kernel
theorem dL_difference_27 : decode cL_difference 27 = .ok (.iconst 0, 1) := by decide +kernel
theorem dL_difference_28 : decode cL_difference 28 = .ok (.ireturn, 1) := by decide +kernel
set_option maxRecDepth 20000 in
theorem ggL_compose_X2_compose : GoodIn wsL_compose wsX2_compose := goodIn_ca (goodIn_ca (goodIn_ca (goodIn_r _ [8, 9, 10, 11, 12, 13, 14, 15, 16, 17, 18, 19, 20, 21, 7, 22, 23, 24, 25, 26, 27, 28, 29, 30, 31, 32, 33, 34, 35, 36, 37, 38, 39, 40, 41, 42, 43, 44, 45, 46, 47, 48, 49, 50, 51, 52, 53, 54, 55, 56, 57, 58, 59, 60, 61, 62, 63, 64, 65, 66, 67, 68, 69, 70, 71, 72, 73, 74, 75, 76, 77, 78, 79, 80, 81, 82, 83, 84, 85, 86, 87, 88, 89, 90, 91, 92, 93, 94, 95, 96, 97, 98, 99, 100, 101, 102, 103, 104, 105, 106, 107, 108, 109, 110, 111, 112, 113, 114, 115, 116, 117, 118, 119, 120, 121, 122, 123, 124, 125, 126, 127, 128, 129, 130, 131, 132, 133, 134, 135, 136, 137, 138, 139, 140, 141, 142, 143, 144, 145, 146, 147, 148, 149, 150, 151, 152, 153, 154, 155, 156, 157, 158, 159, 160, 161, 162, 163] (by decide +kernel) (by decide +kernel)) (goodIn_sub (fun _ h => List.mem_cons_of_mem _ (List.mem_append_left _ (List.mem_append_left _ (List.mem_append_right _ h)))) (by decide +kernel))) (goodIn_sub (fun _ h => List.mem_cons_of_mem _ (List.mem_append_left _ (List.mem_append_right _ h))) (by decide +kernel))) (goodIn_sub (fun _ h => List.mem_cons_of_mem _ (List.mem_append_right _ h)) (by decide +kernel))
set_option maxRecDepth 20000 in
theorem gL_compose_X2_compose : GoodIn wsL_compose (wsV RL 48 RX2 yX2_compose wsX2_compose) := goodIn_app (goodIn_of _ (by decide +kernel)) ggL_compose_X2_compose
theorem dL_compose_0 : decode cL_compose 0 = .ok (.aload_n 3, 1) := by decide +kernel
theorem dL_compose_1 : decode cL_compose 1 = .ok (.iconst 0, 1) := by decide +kernel
theorem dL_compose_2 : decode cL_compose 2 = .ok (.aload_n 0, 1) := by decide +kernel
theorem dL_compose_3 : decode cL_compose 3 = .ok (.iload_n 1, 1) := by decide +kernel
theorem dL_compose_4 : decode cL_compose 4 = .ok (.iload_n 2, 1) := by decide +kernel
theorem dL_compose_5 : decode cL_compose 5 = .ok (.invokevirtual 48, 3) := by decide +kernel
theorem dL_compose_8 : decode cL_compose 8 = .ok (.i2l, 1) := by decide +kernel
theorem dL_compose_9 : decode cL_compose 9 = .ok (.lastore, 1) := by decide +kernel
theorem dL_compose_10 : decode cL_compose 10 = .ok (.goto 15, 3) := by decide +kernel
theorem dL_compose_13 : decode cL_compose 13 = .ok (.astore 4, 2) := by decide +kernel
theorem dL_compose_15 : decode cL_compose 15 = .ok (.iconst 1, 1) := by decide +kernel
theorem dL_compose_16 : decode cL_compose 16 = .ok (.ireturn, 1) := by decide +kernel
theorem dL_compose_17 : decode cL_compose 17 = .ok (.astore 4, 2) := by decide +kernel
theorem dL_compose_19 : decode cL_compose 19 = .ok (.iconst 2, 1) := by decide +kernel
theorem dL_compose_20 : decode cL_compose 20 = .ok (.ireturn, 1) := by decide +kernel
theorem dL_compose_21 : decode cL_compose 21 = .ok (.astore 4, 2) := by decide +kernel
theorem dL_compose_23 : decode cL_compose 23 = .ok (.iconst 3, 1) := by decide +kernel
theorem dL_compose_24 : decode cL_compose 24 = .ok (.ireturn, 1) := by decide +kernel
theorem dL_compose_25 : decode cL_compose 25 = .ok (.iconst 0, 1) := by decide +kernel
theorem dL_compose_26 : decode cL_compose 26 = .ok (.ireturn, 1) := by decide +kernel
set_option maxRecDepth 20000 in
theorem ggL_instructions_X2_instructions : GoodIn wsL_instructions wsX2_instructions := goodIn_ca (goodIn_r _ [6, 7, 8, 9, 10, 5, 11, 12, 13, 14, 15, 16, 17, 18, 19, 20, 21, 22, 23, 24, 25, 26, 27, 28, 29, 30, 31, 32, 33, 34, 35, 36, 37, 38, 39, 40, 41, 42, 43, 44, 45, 46, 47, 48, 49, 50, 51, 52, 53, 54, 55, 56] (by decide +kernel) (by decide +kernel)) (goodIn_sub (fun _ h => List.mem_cons_of_mem _ (List.mem_append_right _ h)) (by decide +kernel))
set_option maxRecDepth 20000 in
theorem gL_instructions_X2_instructions : GoodIn wsL_instructions (wsV RL 51 RX2 yX2_instructions wsX2_instructions) := goodIn_app (goodIn_of _ (by decide +kernel)) ggL_instructions_X2_instructions
theorem dL_instructions_0 : decode cL_instructions 0 = .ok (.aload_n 2, 1) := by decide +kernel
theorem dL_instructions_1 : decode cL_instructions 1 = .ok (.iconst 0, 1) := by decide +kernel
theorem dL_instructions_2 : decode cL_instructions 2 = .ok (.aload_n 0, 1) := by decide +kernel
theorem dL_instructions_3 : decode cL_instructions 3 = .ok (.iload_n 1, 1) := by decide +kernel
theorem dL_instructions_4 : decode cL_instructions 4 = .ok (.invokevirtual 51, 3) := by decide +kernel
theorem dL_instructions_7 : decode cL_instructions 7 = .ok (.i2l, 1) := by decide +kernel
theorem dL_instructions_8 : decode cL_instructions 8 = .ok (.lastore, 1) := by decide +kernel
theorem dL_instructions_9 : decode cL_instructions 9 = .ok (.goto 6, 3) := by decide +kernel
theorem dL_instructions_12 : decode cL_instructions 12 = .ok (.astore_n 3, 1) := by decide +kernel
theorem dL_instructions_13 : decode cL_instructions 13 = .ok (.iconst 1, 1) := by decide +kernel
theorem dL_instructions_14 : decode cL_instructions 14 = .ok (.ireturn, 1) := by decide +kernel
theorem dL_instructions_15 : decode cL_instructions 15 = .ok (.iconst 0, 1) := by decide +kernel
theorem dL_instructions_16 : decode cL_instructions 16 = .ok (.ireturn, 1) := by decide +kernel
set_option maxRecDepth 20000 in
theorem ggL_instruction_X2_instruction : GoodIn wsL_instruction wsX2_instruction := goodIn_ca (goodIn_r _ [6, 7, 8, 9, 10, 11, 12, 5, 13, 14, 15, 16, 17, 18, 19, 20, 21, 22, 23, 24, 25, 26, 27, 28, 29, 30, 31, 32, 33, 34, 35, 36, 37, 38, 39, 40, 41, 42, 43, 44, 45, 46, 47, 48, 49, 50, 51, 52, 53, 54, 55, 56, 57, 58, 59, 60, 61, 62, 63, 64, 65, 66, 67, 68, 69, 70, 71] (by decide +kernel) (by decide +kernel)) (goodIn_sub (fun _ h => List.mem_cons_of_mem _ (List.mem_append_right _ h)) (by decide +kernel))
set_option maxRecDepth 20000 in
theorem gL_instruction_X2_instruction : GoodIn wsL_instruction (wsV RL 54 RX2 yX2_instruction wsX2_instruction) := goodIn_app (goodIn_of _ (by decide +kernel)) ggL_instruction_X2_instruction
theorem dL_instruction_0 : decode cL_instruction 0 = .ok (.aload 4, 2) := by decide +kernel
theorem dL_instruction_2 : decode cL_instruction 2 = .ok (.iconst 0, 1) := by decide +kernel
theorem dL_instruction_3 : decode cL_instruction 3 = .ok (.aload_n 0, 1) := by decide +kernel
theorem dL_instruction_4 : decode cL_instruction 4 = .ok (.iload_n 1, 1) := by decide +kernel
theorem dL_instruction_5 : decode cL_instruction 5 = .ok (.iload_n 2, 1) := by decide +kernel
theorem dL_instruction_6 : decode cL_instruction 6 = .ok (.iload_n 3, 1) := by decide +kernel
theorem dL_instruction_7 : decode cL_instruction 7 = .ok (.invokevirtual 54, 3) := by decide +kernel
theorem dL_instruction_10 : decode cL_instruction 10 = .ok (.i2l, 1) := by decide +kernel
theorem dL_instruction_11 : decode cL_instruction 11 = .ok (.lastore, 1) := by decide +kernel
theorem dL_instruction_12 : decode cL_instruction 12 = .ok (.goto 7, 3) := by decide +kernel
theorem dL_instruction_15 : decode cL_instruction 15 = .ok (.astore 5, 2) := by decide +kernel
theorem dL_instruction_17 : decode cL_instruction 17 = .ok (.iconst 1, 1) := by decide +kernel
theorem dL_instruction_18 : decode cL_instruction 18 = .ok (.ireturn, 1) := by decide +kernel
theorem dL_instruction_19 : decode cL_instruction 19 = .ok (.iconst 0, 1) := by decide +kernel
theorem dL_instruction_20 : decode cL_instruction 20 = .ok (.ireturn, 1) := by decide +kernel
set_option maxRecDepth 20000 in
theorem ggL_cost_X2_cost : GoodIn wsL_cost wsX2_cost := goodIn_ca (goodIn_r _ [6, 7, 8, 9, 10, 5, 11, 12, 13, 14, 15, 16, 17, 18, 19, 20, 21, 22, 23, 24, 25, 26, 27, 28, 29, 30, 31, 32, 33, 34, 35, 36, 37, 38, 39, 40, 41, 42, 43, 44, 45, 46, 47, 48, 49, 50, 51, 52, 53, 54, 55, 56] (by decide +kernel) (by decide +kernel)) (goodIn_sub (fun _ h => List.mem_cons_of_mem _ (List.mem_append_right _ h)) (by decide +kernel))
set_option maxRecDepth 20000 in
theorem gL_cost_X2_cost : GoodIn wsL_cost (wsV RL 57 RX2 yX2_cost wsX2_cost) := goodIn_app (goodIn_of _ (by decide +kernel)) ggL_cost_X2_cost
theorem dL_cost_0 : decode cL_cost 0 = .ok (.aload_n 2, 1) := by decide +kernel
theorem dL_cost_1 : decode cL_cost 1 = .ok (.iconst 0, 1) := by decide +kernel
theorem dL_cost_2 : decode cL_cost 2 = .ok (.aload_n 0, 1) := by decide +kernel
theorem dL_cost_3 : decode cL_cost 3 = .ok (.iload_n 1, 1) := by decide +kernel
theorem dL_cost_4 : decode cL_cost 4 = .ok (.invokevirtual 57, 3) := by decide +kernel
theorem dL_cost_7 : decode cL_cost 7 = .ok (.i2l, 1) := by decide +kernel
theorem dL_cost_8 : decode cL_cost 8 = .ok (.lastore, 1) := by decide +kernel
theorem dL_cost_9 : decode cL_cost 9 = .ok (.goto 6, 3) := by decide +kernel
theorem dL_cost_12 : decode cL_cost 12 = .ok (.astore_n 3, 1) := by decide +kernel
theorem dL_cost_13 : decode cL_cost 13 = .ok (.iconst 1, 1) := by decide +kernel
theorem dL_cost_14 : decode cL_cost 14 = .ok (.ireturn, 1) := by decide +kernel
theorem dL_cost_15 : decode cL_cost 15 = .ok (.iconst 0, 1) := by decide +kernel
theorem dL_cost_16 : decode cL_cost 16 = .ok (.ireturn, 1) := by decide +kernel
set_option maxRecDepth 20000 in
theorem ggL_newness_X2_newness : GoodIn wsL_newness wsX2_newness := goodIn_ca (goodIn_r _ [6, 7, 8, 9, 10, 11, 5, 12, 13, 14, 15, 16, 17, 18, 19, 20, 21, 22, 23, 24, 25, 26, 27, 28, 29, 30, 31, 32, 33, 34, 35, 36, 37, 38, 39, 40, 41, 42, 43, 44, 45, 46, 47, 48, 49, 50, 51, 52, 53, 54, 55, 56, 57] (by decide +kernel) (by decide +kernel)) (goodIn_sub (fun _ h => List.mem_cons_of_mem _ (List.mem_append_right _ h)) (by decide +kernel))
set_option maxRecDepth 20000 in
theorem gL_newness_X2_newness : GoodIn wsL_newness (wsV RL 60 RX2 yX2_newness wsX2_newness) := goodIn_app (goodIn_of _ (by decide +kernel)) ggL_newness_X2_newness
theorem dL_newness_0 : decode cL_newness 0 = .ok (.aload_n 2, 1) := by decide +kernel
theorem dL_newness_1 : decode cL_newness 1 = .ok (.iconst 0, 1) := by decide +kernel
theorem dL_newness_2 : decode cL_newness 2 = .ok (.aload_n 0, 1) := by decide +kernel
theorem dL_newness_3 : decode cL_newness 3 = .ok (.iload_n 1, 1) := by decide +kernel
theorem dL_newness_4 : decode cL_newness 4 = .ok (.invokevirtual 60, 3) := by decide +kernel
theorem dL_newness_7 : decode cL_newness 7 = .ok (.dastore, 1) := by decide +kernel
theorem dL_newness_8 : decode cL_newness 8 = .ok (.goto 6, 3) := by decide +kernel
theorem dL_newness_11 : decode cL_newness 11 = .ok (.astore_n 3, 1) := by decide +kernel
theorem dL_newness_12 : decode cL_newness 12 = .ok (.iconst 1, 1) := by decide +kernel
theorem dL_newness_13 : decode cL_newness 13 = .ok (.ireturn, 1) := by decide +kernel
theorem dL_newness_14 : decode cL_newness 14 = .ok (.iconst 0, 1) := by decide +kernel
theorem dL_newness_15 : decode cL_newness 15 = .ok (.ireturn, 1) := by decide +kernel
set_option maxRecDepth 20000 in
theorem ggL_apply_X2_apply : GoodIn wsL_apply wsX2_apply := goodIn_ca (goodIn_ca (goodIn_ca (goodIn_r _ [8, 9, 10, 11, 12, 13, 14, 15, 16, 7, 17, 18, 19, 20, 21, 22, 23, 24, 25, 26, 27, 28, 29, 30, 31, 32, 33, 34, 35, 36, 37, 38, 39, 40, 41, 42, 43, 44, 45, 46, 47, 48, 49, 50, 51, 52, 53, 54, 55, 56, 57, 58, 59, 60, 61, 62, 63, 64, 65, 66, 67, 68, 69, 70, 71, 72, 73, 74, 75, 76, 77, 78, 79, 80, 81, 82, 83, 84, 85, 86, 87, 88, 89, 90, 91, 92, 93, 94, 95, 96, 97, 98, 99, 100, 101, 102, 103, 104, 105, 106, 107, 108, 109, 110, 111, 112, 113, 114, 115, 116, 117, 118, 119, 120, 121, 122, 123, 124, 125, 126, 127, 128, 129, 130, 131, 132, 133, 134, 135, 136, 137] (by decide +kernel) (by decide +kernel)) (goodIn_sub (fun _ h => List.mem_cons_of_mem _ (List.mem_append_left _ (List.mem_append_left _ (List.mem_append_right _ h)))) (by decide +kernel))) (goodIn_sub (fun _ h => List.mem_cons_of_mem _ (List.mem_append_left _ (List.mem_append_right _ h))) (by decide +kernel))) (goodIn_sub (fun _ h => List.mem_cons_of_mem _ (List.mem_append_right _ h)) (by decide +kernel))
set_option maxRecDepth 20000 in
theorem gL_apply_X2_apply : GoodIn wsL_apply (wsV RL 64 RX2 yX2_apply wsX2_apply) := goodIn_app (goodIn_of _ (by decide +kernel)) ggL_apply_X2_apply
theorem dL_apply_0 : decode cL_apply 0 = .ok (.aload_n 3, 1) := by decide +kernel
theorem dL_apply_1 : decode cL_apply 1 = .ok (.iconst 0, 1) := by decide +kernel
theorem dL_apply_2 : decode cL_apply 2 = .ok (.aload_n 0, 1) := by decide +kernel
theorem dL_apply_3 : decode cL_apply 3 = .ok (.iload_n 1, 1) := by decide +kernel
theorem dL_apply_4 : decode cL_apply 4 = .ok (.iload_n 2, 1) := by decide +kernel
theorem dL_apply_5 : decode cL_apply 5 = .ok (.invokevirtual 64, 3) := by decide +kernel
theorem dL_apply_8 : decode cL_apply 8 = .ok (.i2l, 1) := by decide +kernel
theorem dL_apply_9 : decode cL_apply 9 = .ok (.lastore, 1) := by decide +kernel
theorem dL_apply_10 : decode cL_apply 10 = .ok (.goto 15, 3) := by decide +kernel
theorem dL_apply_13 : decode cL_apply 13 = .ok (.astore 4, 2) := by decide +kernel
theorem dL_apply_15 : decode cL_apply 15 = .ok (.iconst 1, 1) := by decide +kernel
theorem dL_apply_16 : decode cL_apply 16 = .ok (.ireturn, 1) := by decide +kernel
theorem dL_apply_17 : decode cL_apply 17 = .ok (.astore 4, 2) := by decide +kernel
theorem dL_apply_19 : decode cL_apply 19 = .ok (.iconst 2, 1) := by decide +kernel
theorem dL_apply_20 : decode cL_apply 20 = .ok (.ireturn, 1) := by decide +kernel
theorem dL_apply_21 : decode cL_apply 21 = .ok (.astore 4, 2) := by decide +kernel
theorem dL_apply_23 : decode cL_apply 23 = .ok (.iconst 3, 1) := by decide +kernel
theorem dL_apply_24 : decode cL_apply 24 = .ok (.ireturn, 1) := by decide +kernel
theorem dL_apply_25 : decode cL_apply 25 = .ok (.iconst 0, 1) := by decide +kernel
theorem dL_apply_26 : decode cL_apply 26 = .ok (.ireturn, 1) := by decide +kernel
set_option maxRecDepth 20000 in
theorem ggL_steps_X2_steps : GoodIn wsL_steps wsX2_steps := goodIn_ca (goodIn_r _ [6, 7, 8, 9, 5, 10, 11, 12, 13, 14, 15, 16, 17, 18, 19, 20, 21, 22, 23, 24, 25, 26, 27, 28, 29, 30, 31, 32, 33, 34, 35, 36, 37, 38, 39, 40, 41, 42, 43, 44, 45, 46, 47, 48, 49, 50, 51, 52, 53, 54, 55, 56, 57, 58, 59, 60, 61, 62, 63, 64, 65, 66, 67, 68, 69, 70, 71, 72, 73, 74, 75, 76, 77, 78, 79, 80, 81, 82, 83, 84, 85, 86, 87, 88] (by decide +kernel) (by decide +kernel)) (goodIn_sub (fun _ h => List.mem_cons_of_mem _ (List.mem_append_right _ h)) (by decide +kernel))
set_option maxRecDepth 20000 in
theorem gL_steps_X2_steps : GoodIn wsL_steps (wsV RL 67 RX2 yX2_steps wsX2_steps) := goodIn_app (goodIn_of _ (by decide +kernel)) ggL_steps_X2_steps
theorem dL_steps_0 : decode cL_steps 0 = .ok (.aload_n 3, 1) := by decide +kernel
theorem dL_steps_1 : decode cL_steps 1 = .ok (.iconst 0, 1) := by decide +kernel
theorem dL_steps_2 : decode cL_steps 2 = .ok (.aload_n 0, 1) := by decide +kernel
theorem dL_steps_3 : decode cL_steps 3 = .ok (.iload_n 1, 1) := by decide +kernel
theorem dL_steps_4 : decode cL_steps 4 = .ok (.iload_n 2, 1) := by decide +kernel
theorem dL_steps_5 : decode cL_steps 5 = .ok (.invokevirtual 67, 3) := by decide +kernel
theorem dL_steps_8 : decode cL_steps 8 = .ok (.i2l, 1) := by decide +kernel
theorem dL_steps_9 : decode cL_steps 9 = .ok (.lastore, 1) := by decide +kernel
theorem dL_steps_10 : decode cL_steps 10 = .ok (.goto 7, 3) := by decide +kernel
theorem dL_steps_13 : decode cL_steps 13 = .ok (.astore 4, 2) := by decide +kernel
theorem dL_steps_15 : decode cL_steps 15 = .ok (.iconst 1, 1) := by decide +kernel
theorem dL_steps_16 : decode cL_steps 16 = .ok (.ireturn, 1) := by decide +kernel
theorem dL_steps_17 : decode cL_steps 17 = .ok (.iconst 0, 1) := by decide +kernel
theorem dL_steps_18 : decode cL_steps 18 = .ok (.ireturn, 1) := by decide +kernel
set_option maxRecDepth 20000 in
theorem ggL_leastCost_X2_leastCost : GoodIn wsL_leastCost wsX2_leastCost := goodIn_ca (goodIn_r _ [6, 7, 8, 9, 5, 10, 11, 12, 13, 14, 15, 16, 17, 18, 19, 20, 21, 22, 23, 24, 25, 26, 27, 28, 29, 30, 31, 32, 33, 34, 35, 36, 37, 38, 39, 40, 41, 42, 43, 44, 45, 46, 47, 48, 49, 50, 51, 52, 53, 54, 55, 56, 57, 58, 59, 60, 61, 62, 63, 64, 65, 66, 67, 68, 69, 70, 71, 72, 73, 74, 75, 76, 77, 78, 79, 80, 81, 82, 83, 84, 85, 86, 87, 88] (by decide +kernel) (by decide +kernel)) (goodIn_sub (fun _ h => List.mem_cons_of_mem _ (List.mem_append_right _ h)) (by decide +kernel))
set_option maxRecDepth 20000 in
theorem gL_leastCost_X2_leastCost : GoodIn wsL_leastCost (wsV RL 70 RX2 yX2_leastCost wsX2_leastCost) := goodIn_app (goodIn_of _ (by decide +kernel)) ggL_leastCost_X2_leastCost
theorem dL_leastCost_0 : decode cL_leastCost 0 = .ok (.aload_n 3, 1) := by decide +kernel
theorem dL_leastCost_1 : decode cL_leastCost 1 = .ok (.iconst 0, 1) := by decide +kernel
theorem dL_leastCost_2 : decode cL_leastCost 2 = .ok (.aload_n 0, 1) := by decide +kernel
theorem dL_leastCost_3 : decode cL_leastCost 3 = .ok (.iload_n 1, 1) := by decide +kernel
theorem dL_leastCost_4 : decode cL_leastCost 4 = .ok (.iload_n 2, 1) := by decide +kernel
theorem dL_leastCost_5 : decode cL_leastCost 5 = .ok (.invokevirtual 70, 3) := by decide +kernel
theorem dL_leastCost_8 : decode cL_leastCost 8 = .ok (.i2l, 1) := by decide +kernel
theorem dL_leastCost_9 : decode cL_leastCost 9 = .ok (.lastore, 1) := by decide +kernel
theorem dL_leastCost_10 : decode cL_leastCost 10 = .ok (.goto 7, 3) := by decide +kernel
theorem dL_leastCost_13 : decode cL_leastCost 13 = .ok (.astore 4, 2) := by decide +kernel
theorem dL_leastCost_15 : decode cL_leastCost 15 = .ok (.iconst 1, 1) := by decide +kernel
theorem dL_leastCost_16 : decode cL_leastCost 16 = .ok (.ireturn, 1) := by decide +kernel
theorem dL_leastCost_17 : decode cL_leastCost 17 = .ok (.iconst 0, 1) := by decide +kernel
theorem dL_leastCost_18 : decode cL_leastCost 18 = .ok (.ireturn, 1) := by decide +kernel
set_option maxRecDepth 20000 in
theorem ggL_installVersion_X2_installVersion : GoodIn wsL_installVersion wsX2_installVersion := goodIn_ca (goodIn_r _ [6, 7, 8, 9, 5, 10, 11, 12, 13, 14, 15, 16, 17, 18, 19, 20, 21, 22, 23, 24, 25, 26, 27, 28, 29, 30, 31, 32, 33, 34, 35, 36, 37, 38, 39, 40, 41, 42, 43, 44, 45, 46, 47, 48, 49, 50, 51, 52, 53, 54, 55, 56, 57, 58, 59, 60, 61, 62, 63, 64, 65, 66, 67, 68, 69, 70, 71, 72, 73, 74, 75, 76, 77, 78, 79, 80, 81, 82, 83, 84, 85, 86, 87, 88, 89, 90, 91, 92, 93, 94, 95, 96, 97, 98, 99, 100, 101, 102, 103, 104, 105, 106, 107, 108, 109, 110, 111, 112, 113, 114, 115, 116] (by decide +kernel) (by decide +kernel)) (goodIn_sub (fun _ h => List.mem_cons_of_mem _ (List.mem_append_right _ h)) (by decide +kernel))
set_option maxRecDepth 20000 in
theorem gL_installVersion_X2_installVersion : GoodIn wsL_installVersion (wsV RL 73 RX2 yX2_installVersion wsX2_installVersion) := goodIn_app (goodIn_of _ (by decide +kernel)) ggL_installVersion_X2_installVersion
theorem dL_installVersion_0 : decode cL_installVersion 0 = .ok (.aload_n 2, 1) := by decide +kernel
theorem dL_installVersion_1 : decode cL_installVersion 1 = .ok (.iconst 0, 1) := by decide +kernel
theorem dL_installVersion_2 : decode cL_installVersion 2 = .ok (.aload_n 0, 1) := by decide +kernel
theorem dL_installVersion_3 : decode cL_installVersion 3 = .ok (.iload_n 1, 1) := by decide +kernel
theorem dL_installVersion_4 : decode cL_installVersion 4 = .ok (.invokevirtual 73, 3) := by decide +kernel
theorem dL_installVersion_7 : decode cL_installVersion 7 = .ok (.i2l, 1) := by decide +kernel
theorem dL_installVersion_8 : decode cL_installVersion 8 = .ok (.lastore, 1) := by decide +kernel
theorem dL_installVersion_9 : decode cL_installVersion 9 = .ok (.goto 6, 3) := by decide +kernel
theorem dL_installVersion_12 : decode cL_installVersion 12 = .ok (.astore_n 3, 1) := by decide +kernel
theorem dL_installVersion_13 : decode cL_installVersion 13 = .ok (.iconst 1, 1) := by decide +kernel
theorem dL_installVersion_14 : decode cL_installVersion 14 = .ok (.ireturn, 1) := by decide +kernel
theorem dL_installVersion_15 : decode cL_installVersion 15 = .ok (.iconst 0, 1) := by decide +kernel
theorem dL_installVersion_16 : decode cL_installVersion 16 = .ok (.ireturn, 1) := by decide +kernel
set_option maxRecDepth 20000 in
theorem ggL_installPatch_X2_installPatch : GoodIn wsL_installPatch wsX2_installPatch := goodIn_ca (goodIn_ca (goodIn_r _ [7, 8, 9, 10, 11, 12, 13, 14, 15, 6, 16, 17, 18, 19, 20, 21, 22, 23, 24, 25, 26, 27, 28, 29, 30, 31, 32, 33, 34, 35, 36, 37, 38, 39, 40, 41, 42, 43, 44, 45, 46, 47, 48, 49, 50, 51, 52, 53, 54, 55, 56, 57, 58, 59, 60, 61, 62, 63, 64, 65, 66, 67, 68, 69, 70, 71, 72, 73, 74, 75, 76, 77, 78, 79, 80, 81, 82, 83, 84, 85, 86, 87, 88, 89, 90, 91, 92, 93, 94, 95, 96, 97, 98, 99, 100, 101, 102, 103, 104, 105, 106, 107, 108, 109, 110, 111, 112, 113, 114, 115, 116, 117, 118, 119, 120, 121, 122, 123, 124, 125, 126, 127, 128, 129, 130, 131, 132, 133, 134, 135, 136, 137, 138, 139, 140, 141, 142, 143, 144, 145] (by decide +kernel) (by decide +kernel)) (goodIn_sub (fun _ h => List.mem_cons_of_mem _ (List.mem_append_left _ (List.mem_append_right _ h))) (by decide +kernel))) (goodIn_sub (fun _ h => List.mem_cons_of_mem _ (List.mem_append_right _ h)) (by decide +kernel))
set_option maxRecDepth 20000 in
theorem gL_installPatch_X2_installPatch : GoodIn wsL_installPatch (wsV RL 76 RX2 yX2_installPatch wsX2_installPatch) := goodIn_app (goodIn_of _ (by decide +kernel)) ggL_installPatch_X2_installPatch
theorem dL_installPatch_0 : decode cL_installPatch 0 = .ok (.aload_n 2, 1) := by decide +kernel
theorem dL_installPatch_1 : decode cL_installPatch 1 = .ok (.iconst 0, 1) := by decide +kernel
theorem dL_installPatch_2 : decode cL_installPatch 2 = .ok (.aload_n 0, 1) := by decide +kernel
theorem dL_installPatch_3 : decode cL_installPatch 3 = .ok (.iload_n 1, 1) := by decide +kernel
theorem dL_installPatch_4 : decode cL_installPatch 4 = .ok (.invokevirtual 76, 3) := by decide +kernel
theorem dL_installPatch_7 : decode cL_installPatch 7 = .ok (.i2l, 1) := by decide +kernel
theorem dL_installPatch_8 : decode cL_installPatch 8 = .ok (.lastore, 1) := by decide +kernel
theorem dL_installPatch_9 : decode cL_installPatch 9 = .ok (.goto 9, 3) := by decide +kernel
theorem dL_installPatch_12 : decode cL_installPatch 12 = .ok (.astore_n 3, 1) := by decide +kernel
theorem dL_installPatch_13 : decode cL_installPatch 13 = .ok (.iconst 1, 1) := by decide +kernel
theorem dL_installPatch_14 : decode cL_installPatch 14 = .ok (.ireturn, 1) := by decide +kernel
theorem dL_installPatch_15 : decode cL_installPatch 15 = .ok (.astore_n 3, 1) := by decide +kernel
theorem dL_installPatch_16 : decode cL_installPatch 16 = .ok (.iconst 2, 1) := by decide +kernel
theorem dL_installPatch_17 : decode cL_installPatch 17 = .ok (.ireturn, 1) := by decide +kernel
theorem dL_installPatch_18 : decode cL_installPatch 18 = .ok (.iconst 0, 1) := by decide +kernel
theorem dL_installPatch_19 : decode cL_installPatch 19 = .ok (.ireturn, 1) := by decide +kernel
set_option maxRecDepth 20000 in
theorem ggL_rollBack_X2_rollBack : GoodIn wsL_rollBack wsX2_rollBack := goodIn_ca (goodIn_r _ [6, 7, 8, 9, 10, 11, 12, 13, 14, 15, 16, 17, 18, 19, 20, 21, 22, 23, 24, 25, 26, 27, 28, 29, 30, 31, 32, 33, 34, 35, 36, 37, 38, 39, 40, 41, 42, 43, 44, 45, 46, 47, 48, 49, 50, 51, 52, 53, 54, 55, 56, 57, 58, 59] (by decide +kernel) (by decide +kernel)) (goodIn_sub (fun _ h => List.mem_cons_of_mem _ (List.mem_append_right _ h)) (by decide +kernel))
set_option maxRecDepth 20000 in
theorem gL_rollBack_X2_rollBack : GoodIn wsL_rollBack (wsV RL 79 RX2 yX2_rollBack wsX2_rollBack) := goodIn_app (goodIn_of _ (by decide +kernel)) ggL_rollBack_X2_rollBack
theorem dL_rollBack_0 : decode cL_rollBack 0 = .ok (.aload_n 1, 1) := by decide +kernel
theorem dL_rollBack_1 : decode cL_rollBack 1 = .ok (.iconst 0, 1) := by decide +kernel
theorem dL_rollBack_2 : decode cL_rollBack 2 = .ok (.aload_n 0, 1) := by decide +kernel
theorem dL_rollBack_3 : decode cL_rollBack 3 = .ok (.invokevirtual 79, 3) := by decide +kernel
theorem dL_rollBack_6 : decode cL_rollBack 6 = .ok (.i2l, 1) := by decide +kernel
theorem dL_rollBack_7 : decode cL_rollBack 7 = .ok (.lastore, 1) := by decide +kernel
theorem dL_rollBack_8 : decode cL_rollBack 8 = .ok (.goto 6, 3) := by decide +kernel
theorem dL_rollBack_11 : decode cL_rollBack 11 = .ok (.astore_n 2, 1) := by decide +kernel
theorem dL_rollBack_12 : decode cL_rollBack 12 = .ok (.iconst 1, 1) := by decide +kernel
theorem dL_rollBack_13 : decode cL_rollBack 13 = .ok (.ireturn, 1) := by decide +kernel
theorem dL_rollBack_14 : decode cL_rollBack 14 = .ok (.iconst 0, 1) := by decide +kernel
theorem dL_rollBack_15 : decode cL_rollBack 15 = .ok (.ireturn, 1) := by decide +kernel
set_option maxRecDepth 20000 in
theorem ggL_isInstalled_X2_isInstalled : GoodIn wsL_isInstalled wsX2_isInstalled := goodIn_ca (goodIn_r _ [6, 7, 8, 9, 10, 5, 11, 12, 13, 14, 15, 16, 17, 18, 19, 20, 21, 22, 23, 24, 25, 26, 27, 28, 29, 30, 31, 32, 33, 34, 35, 36, 37, 38, 39, 40, 41, 42, 43, 44, 45, 46, 47, 48, 49, 50, 51, 52, 53, 54, 55, 56, 57, 58, 59, 60] (by decide +kernel) (by decide +kernel)) (goodIn_sub (fun _ h => List.mem_cons_of_mem _ (List.mem_append_right _ h)) (by decide +kernel))
set_option maxRecDepth 20000 in
theorem gL_isInstalled_X2_isInstalled : GoodIn wsL_isInstalled (wsV RL 82 RX2 yX2_isInstalled wsX2_isInstalled) := goodIn_app (goodIn_of _ (by decide +kernel)) ggL_isInstalled_X2_isInstalled
theorem dL_isInstalled_0 : decode cL_isInstalled 0 = .ok (.aload_n 2, 1) := by decide +kernel
theorem dL_isInstalled_1 : decode cL_isInstalled 1 = .ok (.iconst 0, 1) := by decide +kernel
theorem dL_isInstalled_2 : decode cL_isInstalled 2 = .ok (.aload_n 0, 1) := by decide +kernel
theorem dL_isInstalled_3 : decode cL_isInstalled 3 = .ok (.iload_n 1, 1) := by decide +kernel
theorem dL_isInstalled_4 : decode cL_isInstalled 4 = .ok (.invokevirtual 82, 3) := by decide +kernel
theorem dL_isInstalled_7 : decode cL_isInstalled 7 = .ok (.ifCond .eq 7, 3) := by decide +kernel
theorem dL_isInstalled_10 : decode cL_isInstalled 10 = .ok (.lconst 1, 1) := by decide +kernel
theorem dL_isInstalled_11 : decode cL_isInstalled 11 = .ok (.goto 4, 3) := by decide +kernel
theorem dL_isInstalled_14 : decode cL_isInstalled 14 = .ok (.lconst 0, 1) := by decide +kernel
theorem dL_isInstalled_15 : decode cL_isInstalled 15 = .ok (.lastore, 1) := by decide +kernel
theorem dL_isInstalled_16 : decode cL_isInstalled 16 = .ok (.goto 6, 3) := by decide +kernel
theorem dL_isInstalled_19 : decode cL_isInstalled 19 = .ok (.astore_n 3, 1) := by decide +kernel
theorem dL_isInstalled_20 : decode cL_isInstalled 20 = .ok (.iconst 1, 1) := by decide +kernel
theorem dL_isInstalled_21 : decode cL_isInstalled 21 = .ok (.ireturn, 1) := by decide +kernel
theorem dL_isInstalled_22 : decode cL_isInstalled 22 = .ok (.iconst 0, 1) := by decide +kernel
theorem dL_isInstalled_23 : decode cL_isInstalled 23 = .ok (.ireturn, 1) := by decide +kernel
set_option maxRecDepth 20000 in
theorem ggL_law_X2_init : GoodIn wsL_law wsX2_init := goodIn_r _ [11, 12, 13, 14, 15, 16, 17, 18, 19, 20, 21, 22, 23, 24, 25, 26, 27, 28, 29, 30, 31, 32, 33, 34, 35, 36, 37, 38, 39, 40, 41, 42, 43, 44, 45, 46, 47, 48, 49, 50, 51, 52, 53, 54, 55, 56, 57, 58, 59, 60, 61, 62, 63, 64, 65, 66, 67, 621, 622, 623, 624, 625, 626, 627, 628, 641, 642, 643, 644] (by decide +kernel) (by decide +kernel)
set_option maxRecDepth 20000 in
theorem gL_law_X2_init : GoodIn wsL_law (wsX2_init) := ggL_law_X2_init
set_option maxRecDepth 20000 in
theorem ggL_law_X3_init : GoodIn wsL_law wsX3_init := goodIn_r _ [70, 71, 13, 14, 15, 72, 73, 74, 75, 76, 77, 78, 79, 629, 630, 631, 632, 633, 634, 635, 636, 637, 638, 639, 640] (by decide +kernel) (by decide +kernel)
set_option maxRecDepth 20000 in
theorem gL_law_X3_init : GoodIn wsL_law (wsX3_init) := ggL_law_X3_init
set_option maxRecDepth 20000 in
theorem ggL_law_L_feed : GoodIn wsL_law wsL_feed := goodIn_ca (goodIn_ca (goodIn_r _ [83, 84, 85, 86, 87, 88, 2, 89, 90, 91, 92, 93, 17, 16, 621, 622, 623, 624, 625, 626, 627, 628] (by decide +kernel) (by decide +kernel)) (goodIn_sub (fun _ h => List.mem_append_left _ (List.mem_append_left _ (List.mem_append_right _ h))) (by decide +kernel))) (goodIn_sub (fun _ h => List.mem_append_left _ (List.mem_append_right _ h)) (by decide +kernel))
set_option maxRecDepth 20000 in
theorem gL_law_L_feed : GoodIn wsL_law (va_wsS RL 92 yL_feed wsL_feed) := goodIn_app (goodIn_of _ (by decide +kernel)) ggL_law_L_feed
set_option maxRecDepth 20000 in
theorem ggL_law_X3_feed : GoodIn wsL_law wsX3_feed := goodIn_r _ [97, 98, 99, 72, 100, 101, 102, 5, 103, 104, 105, 106, 107, 629, 630, 631, 632, 633, 634, 635, 636, 637, 638, 639, 640] (by decide +kernel) (by decide +kernel)
set_option maxRecDepth 20000 in
theorem gL_law_X3_feed : GoodIn wsL_law (wsV RL 97 RX3 yX3_feed wsX3_feed) := goodIn_app (goodIn_of _ (by decide +kernel)) ggL_law_X3_feed
set_option maxRecDepth 20000 in
theorem ggL_law_X3_thrown : GoodIn wsL_law wsX3_thrown := goodIn_r _ [111, 98, 629, 630, 631, 632, 633, 634, 635, 636, 637, 638, 639, 640] (by decide +kernel) (by decide +kernel)
set_option maxRecDepth 20000 in
theorem gL_law_X3_thrown : GoodIn wsL_law (wsV RL 98 RX3 yX3_thrown wsX3_thrown) := goodIn_app (goodIn_of _ (by decide +kernel)) ggL_law_X3_thrown
set_option maxRecDepth 20000 in
theorem ggL_law_L_store : GoodIn wsL_law wsL_store := goodIn_ca (goodIn_r _ [114, 85, 115, 116, 117, 2, 118, 21, 23, 24, 25, 16, 17, 119, 120, 121, 122, 92, 93, 123, 124, 125, 20, 126, 127, 45, 46, 47, 48, 13, 14, 49, 50, 51, 52, 53, 54, 55, 56, 57, 58, 59, 15, 60, 61, 62, 63, 64, 65, 66, 67, 128, 129, 130, 131, 132, 133, 34, 134, 135, 136, 137, 138, 139, 140, 141, 142, 143, 144, 145, 33, 146, 147, 148, 149, 150, 151, 152, 153, 154, 155, 156, 157, 158, 159, 160, 161, 162, 163, 164, 165, 166, 167, 168, 169, 170, 621, 622, 623, 624, 625, 626, 627, 628, 644, 641, 642, 643] (by decide +kernel) (by decide +kernel)) (goodIn_sub (fun _ h => List.mem_append_left _ (List.mem_append_right _ h)) (by decide +kernel))
set_option maxRecDepth 20000 in
theorem gL_law_L_store : GoodIn wsL_law (va_wsS RL 101 yL_store wsL_store) := goodIn_app (goodIn_of _ (by decide +kernel)) ggL_law_L_store
set_option maxRecDepth 20000 in
theorem ggL_law_X3_store : GoodIn wsL_law wsX3_store := goodIn_r _ [174, 98, 175, 99, 15, 72, 176, 65, 66, 67, 104, 105, 106, 5, 107, 177, 178, 179, 180, 74, 629, 630, 631, 632, 633, 634, 635, 636, 637, 638, 639, 640] (by decide +kernel) (by decide +kernel)
set_option maxRecDepth 20000 in
theorem gL_law_X3_store : GoodIn wsL_law (wsV RL 104 RX3 yX3_store wsX3_store) := goodIn_app (goodIn_of _ (by decide +kernel)) ggL_law_X3_store
set_option maxRecDepth 20000 in
theorem ggL_law_X2_versions : GoodIn wsL_law wsX2_versions := goodIn_r _ [184, 21, 123, 124, 125, 20, 126, 127, 621, 622, 623, 624, 625, 626, 627, 628, 641, 642, 643] (by decide +kernel) (by decide +kernel)
set_option maxRecDepth 20000 in
theorem gL_law_X2_versions : GoodIn wsL_law (wsV RL 105 RX2 yX2_versions wsX2_versions) := goodIn_app (goodIn_of _ (by decide +kernel)) ggL_law_X2_versions
set_option maxRecDepth 20000 in
theorem ggL_law_X3_versions : GoodIn wsL_law wsX3_versions := goodIn_r _ [188, 98, 175, 629, 630, 631, 632, 633, 634, 635, 636, 637, 638, 639, 640] (by decide +kernel) (by decide +kernel)
set_option maxRecDepth 20000 in
theorem gL_law_X3_versions : GoodIn wsL_law (wsV RL 108 RX3 yX3_versions wsX3_versions) := goodIn_app (goodIn_of _ (by decide +kernel)) ggL_law_X3_versions
set_option maxRecDepth 20000 in
theorem ggL_law_L_length : GoodIn wsL_law wsL_length := goodIn_ca (goodIn_r _ [191, 192, 193, 194, 195, 2, 196, 197, 198, 199, 200, 201, 202, 203, 21, 204, 123, 124, 125, 20, 126, 127, 205, 206, 207, 208, 209, 210, 211, 212, 213, 214, 215, 216, 217, 218, 219, 220, 34, 644, 621, 622, 623, 624, 625, 626, 627, 628, 641, 642, 643] (by decide +kernel) (by decide +kernel)) (goodIn_sub (fun _ h => List.mem_append_right _ h) (by decide +kernel))
set_option maxRecDepth 20000 in
theorem gL_law_L_length : GoodIn wsL_law (va_wsS RL 109 yL_length wsL_length) := goodIn_app (goodIn_of _ (by decide +kernel)) ggL_law_L_length
set_option maxRecDepth 20000 in
theorem ggL_law_X3_length : GoodIn wsL_law wsX3_length := goodIn_r _ [224, 98, 74, 225, 226, 227, 5, 228, 175, 101, 102, 103, 104, 105, 106, 107, 629, 630, 631, 632, 633, 634, 635, 636, 637, 638, 639, 640] (by decide +kernel) (by decide +kernel)
set_option maxRecDepth 20000 in
theorem gL_law_X3_length : GoodIn wsL_law (wsV RL 112 RX3 yX3_length wsX3_length) := goodIn_app (goodIn_of _ (by decide +kernel)) ggL_law_X3_length
set_option maxRecDepth 20000 in
theorem ggL_law_L_byteAt : GoodIn wsL_law wsL_byteAt := goodIn_ca (goodIn_r _ [231, 192, 232, 233, 234, 2, 235, 202, 203, 197, 198, 199, 200, 201, 21, 204, 123, 124, 125, 20, 126, 127, 205, 206, 207, 208, 209, 210, 211, 212, 213, 214, 215, 216, 217, 218, 219, 220, 34, 644, 621, 622, 623, 624, 625, 626, 627, 628, 641, 642, 643] (by decide +kernel) (by decide +kernel)) (goodIn_sub (fun _ h => List.mem_append_right _ h) (by decide +kernel))
set_option maxRecDepth 20000 in
theorem gL_law_L_byteAt : GoodIn wsL_law (va_wsS RL 113 yL_byteAt wsL_byteAt) := goodIn_app (goodIn_of _ (by decide +kernel)) ggL_law_L_byteAt
set_option maxRecDepth 20000 in
theorem ggL_law_X3_byteAt : GoodIn wsL_law wsX3_byteAt := goodIn_r _ [239, 98, 74, 225, 226, 227, 5, 228, 175, 101, 102, 103, 104, 105, 106, 107, 629, 630, 631, 632, 633, 634, 635, 636, 637, 638, 639, 640] (by decide +kernel) (by decide +kernel)
set_option maxRecDepth 20000 in
theorem gL_law_X3_byteAt : GoodIn wsL_law (wsV RL 116 RX3 yX3_byteAt wsX3_byteAt) := goodIn_app (goodIn_of _ (by decide +kernel)) ggL_law_X3_byteAt
set_option maxRecDepth 20000 in
theorem ggL_law_L_areSame : GoodIn wsL_law wsL_areSame := goodIn_ca (goodIn_r _ [242, 192, 243, 244, 245, 2, 246, 198, 199, 200, 201, 202, 203, 21, 204, 123, 124, 125, 20, 126, 127, 205, 206, 207, 208, 209, 210, 211, 212, 213, 214, 215, 216, 217, 218, 219, 220, 34, 247, 248, 249, 25, 250, 49, 251, 252, 253, 254, 621, 622, 623, 624, 625, 626, 627, 628, 641, 642, 643, 644] (by decide +kernel) (by decide +kernel)) (goodIn_sub (fun _ h => List.mem_append_right _ h) (by decide +kernel))
set_option maxRecDepth 20000 in
theorem gL_law_L_areSame : GoodIn wsL_law (va_wsS RL 117 yL_areSame wsL_areSame) := goodIn_app (goodIn_of _ (by decide +kernel)) ggL_law_L_areSame
set_option maxRecDepth 20000 in
theorem ggL_law_X3_areSame : GoodIn wsL_law wsX3_areSame := goodIn_r _ [258, 98, 74, 225, 226, 227, 5, 228, 175, 101, 102, 103, 259, 260, 261, 629, 630, 631, 632, 633, 634, 635, 636, 637, 638, 639, 640] (by decide +kernel) (by decide +kernel)
set_option maxRecDepth 20000 in
theorem gL_law_X3_areSame : GoodIn wsL_law (wsV RL 119 RX3 yX3_areSame wsX3_areSame) := goodIn_app (goodIn_of _ (by decide +kernel)) ggL_law_X3_areSame
set_option maxRecDepth 20000 in
theorem ggL_law_L_weakSum : GoodIn wsL_law wsL_weakSum := goodIn_ca (goodIn_ca (goodIn_r _ [264, 192, 84, 265, 266, 267, 2, 268, 90, 91, 197, 198, 199, 200, 201, 202, 203, 21, 204, 123, 124, 125, 20, 126, 127, 205, 206, 207, 208, 209, 210, 211, 212, 213, 214, 215, 216, 217, 218, 219, 220, 34, 269, 270, 271, 25, 272, 49, 644, 621, 622, 623, 624, 625, 626, 627, 628, 641, 642, 643] (by decide +kernel) (by decide +kernel)) (goodIn_sub (fun _ h => List.mem_append_left _ (List.mem_append_left _ (List.mem_append_right _ h))) (by decide +kernel))) (goodIn_sub (fun _ h => List.mem_append_right _ h) (by decide +kernel))
set_option maxRecDepth 20000 in
theorem gL_law_L_weakSum : GoodIn wsL_law (va_wsS RL 120 yL_weakSum wsL_weakSum) := goodIn_app (goodIn_of _ (by decide +kernel)) ggL_law_L_weakSum
set_option maxRecDepth 20000 in
theorem ggL_law_X3_weakSum : GoodIn wsL_law wsX3_weakSum := goodIn_r _ [276, 98, 74, 225, 226, 227, 5, 228, 175, 101, 102, 103, 104, 105, 106, 107, 277, 278, 279, 629, 630, 631, 632, 633, 634, 635, 636, 637, 638, 639, 640] (by decide +kernel) (by decide +kernel)
set_option maxRecDepth 20000 in
theorem gL_law_X3_weakSum : GoodIn wsL_law (wsV RL 123 RX3 yX3_weakSum wsX3_weakSum) := goodIn_app (goodIn_of _ (by decide +kernel)) ggL_law_X3_weakSum
set_option maxRecDepth 20000 in
theorem ggL_law_L_collisions : GoodIn wsL_law wsL_collisions := goodIn_ca (goodIn_ca (goodIn_r _ [282, 192, 84, 283, 284, 285, 2, 286, 197, 28, 198, 199, 200, 201, 202, 203, 21, 204, 123, 124, 125, 20, 126, 127, 205, 206, 207, 208, 209, 210, 211, 212, 213, 214, 215, 216, 217, 218, 219, 220, 34, 287, 288, 289, 90, 91, 269, 270, 271, 25, 272, 49, 290, 252, 253, 254, 644, 621, 622, 623, 624, 625, 626, 627, 628, 641, 642, 643] (by decide +kernel) (by decide +kernel)) (goodIn_sub (fun _ h => List.mem_append_right _ h) (by decide +kernel))) (goodIn_sub (fun _ h => List.mem_append_left _ (List.mem_append_left _ (List.mem_append_right _ h))) (by decide +kernel))
set_option maxRecDepth 20000 in
theorem gL_law_L_collisions : GoodIn wsL_law (va_wsS RL 124 yL_collisions wsL_collisions) := goodIn_app (goodIn_of _ (by decide +kernel)) ggL_law_L_collisions
set_option maxRecDepth 20000 in
theorem ggL_law_X3_collisions : GoodIn wsL_law wsX3_collisions := goodIn_r _ [294, 98, 74, 15, 225, 226, 227, 5, 228, 175, 101, 102, 103, 104, 105, 106, 107, 295, 296, 297, 277, 278, 279, 298, 299, 300, 629, 630, 631, 632, 633, 634, 635, 636, 637, 638, 639, 640] (by decide +kernel) (by decide +kernel)
set_option maxRecDepth 20000 in
theorem gL_law_X3_collisions : GoodIn wsL_law (wsV RL 126 RX3 yX3_collisions wsX3_collisions) := goodIn_app (goodIn_of _ (by decide +kernel)) ggL_law_X3_collisions
set_option maxRecDepth 20000 in
theorem ggL_law_L_differentBlocks : GoodIn wsL_law wsL_differentBlocks := goodIn_ca (goodIn_ca (goodIn_r _ [303, 192, 84, 304, 305, 306, 2, 307, 197, 198, 199, 200, 201, 202, 203, 21, 204, 123, 124, 125, 20, 126, 127, 205, 206, 207, 208, 209, 210, 211, 212, 213, 214, 215, 216, 217, 218, 219, 220, 34, 287, 288, 289, 90, 91, 308, 309, 310, 290, 252, 253, 25, 254, 49, 644, 621, 622, 623, 624, 625, 626, 627, 628, 641, 642, 643] (by decide +kernel) (by decide +kernel)) (goodIn_sub (fun _ h => List.mem_append_right _ h) (by decide +kernel))) (goodIn_sub (fun _ h => List.mem_append_left _ (List.mem_append_left _ (List.mem_append_right _ h))) (by decide +kernel))
set_option maxRecDepth 20000 in
theorem gL_law_L_differentBlocks : GoodIn wsL_law (va_wsS RL 127 yL_differentBlocks wsL_differentBlocks) := goodIn_app (goodIn_of _ (by decide +kernel)) ggL_law_L_differentBlocks
set_option maxRecDepth 20000 in
theorem ggL_law_X3_differentBlocks : GoodIn wsL_law wsX3_differentBlocks := goodIn_r _ [314, 98, 74, 225, 226, 227, 5, 228, 175, 101, 102, 103, 104, 105, 106, 107, 295, 296, 297, 315, 316, 317, 298, 299, 300, 629, 630, 631, 632, 633, 634, 635, 636, 637, 638, 639, 640] (by decide +kernel) (by decide +kernel)
set_option maxRecDepth 20000 in
theorem gL_law_X3_differentBlocks : GoodIn wsL_law (wsV RL 129 RX3 yX3_differentBlocks wsX3_differentBlocks) := goodIn_app (goodIn_of _ (by decide +kernel)) ggL_law_X3_differentBlocks
set_option maxRecDepth 20000 in
theorem ggL_law_L_difference : GoodIn wsL_law wsL_difference := goodIn_ca (goodIn_ca (goodIn_ca (goodIn_r _ [320, 192, 84, 85, 321, 322, 323, 2, 324, 22, 325, 326, 327, 198, 199, 200, 201, 202, 203, 21, 204, 123, 124, 125, 20, 126, 127, 205, 206, 207, 208, 209, 210, 211, 212, 213, 214, 215, 216, 217, 218, 219, 220, 34, 287, 288, 289, 90, 91, 328, 329, 330, 331, 92, 93, 332, 333, 334, 197, 15, 335, 336, 337, 290, 252, 253, 25, 254, 49, 308, 309, 310, 338, 339, 340, 341, 247, 248, 249, 250, 251, 342, 343, 344, 345, 13, 14, 346, 347, 348, 349, 350, 351, 352, 353, 354, 355, 356, 357, 358, 359, 51, 52, 53, 54, 55, 56, 57, 58, 59, 60, 61, 62, 63, 64, 65, 66, 67, 360, 361, 362, 363, 364, 365, 128, 129, 130, 131, 132, 133, 134, 135, 136, 137, 138, 139, 140, 141, 142, 143, 144, 145, 33, 146, 147, 148, 149, 150, 151, 152, 153, 154, 155, 156, 157, 158, 159, 160, 161, 162, 163, 164, 165, 166, 167, 168, 169, 170, 621, 622, 623, 624, 625, 626, 627, 628, 645, 646, 647, 648, 649, 650, 651, 641, 642, 643, 644] (by decide +kernel) (by decide +kernel)) (goodIn_sub (fun _ h => List.mem_append_right _ h) (by decide +kernel))) (goodIn_sub (fun _ h => List.mem_append_left _ (List.mem_append_left _ (List.mem_append_right _ h))) (by decide +kernel))) (goodIn_sub (fun _ h => List.mem_append_left _ (List.mem_append_right _ h)) (by decide +kernel))
set_option maxRecDepth 20000 in
theorem gL_law_L_difference : GoodIn wsL_law (va_wsS RL 130 yL_difference wsL_difference) := goodIn_app (goodIn_of _ (by decide +kernel)) ggL_law_L_difference
set_option maxRecDepth 20000 in
theorem ggL_law_X3_difference : GoodIn wsL_law wsX3_difference := goodIn_r _ [369, 98, 370, 74, 15, 225, 226, 227, 5, 228, 175, 101, 102, 103, 104, 105, 106, 107, 295, 296, 297, 298, 299, 300, 315, 316, 317, 371, 372, 373, 374, 75, 76, 77, 629, 630, 631, 632, 633, 634, 635, 636, 637, 638, 639, 640] (by decide +kernel) (by decide +kernel)
set_option maxRecDepth 20000 in
theorem gL_law_X3_difference : GoodIn wsL_law (wsV RL 132 RX3 yX3_difference wsX3_difference) := goodIn_app (goodIn_of _ (by decide +kernel)) ggL_law_X3_difference
set_option maxRecDepth 20000 in
theorem ggL_law_L_compose : GoodIn wsL_law wsL_compose := goodIn_ca (goodIn_ca (goodIn_ca (goodIn_r _ [377, 192, 84, 85, 378, 379, 380, 2, 381, 90, 91, 382, 383, 384, 22, 325, 326, 327, 385, 386, 387, 388, 389, 202, 203, 390, 123, 124, 125, 20, 126, 127, 205, 206, 207, 208, 209, 210, 211, 212, 213, 214, 215, 216, 217, 218, 219, 220, 34, 328, 329, 330, 331, 92, 93, 391, 392, 393, 15, 342, 343, 344, 345, 13, 14, 346, 347, 348, 349, 350, 351, 352, 353, 354, 355, 356, 357, 358, 359, 51, 52, 53, 54, 55, 56, 57, 58, 59, 60, 61, 62, 63, 64, 65, 66, 67, 360, 361, 362, 363, 364, 365, 128, 129, 130, 131, 132, 133, 134, 135, 136, 137, 138, 139, 140, 141, 142, 143, 144, 145, 33, 146, 147, 148, 149, 150, 151, 152, 153, 154, 155, 156, 157, 158, 159, 160, 161, 162, 163, 164, 165, 166, 167, 168, 169, 170, 645, 646, 647, 648, 649, 650, 651, 621, 622, 623, 624, 625, 626, 627, 628, 641, 642, 643] (by decide +kernel) (by decide +kernel)) (goodIn_sub (fun _ h => List.mem_append_left _ (List.mem_append_left _ (List.mem_append_right _ h))) (by decide +kernel))) (goodIn_sub (fun _ h => List.mem_append_right _ h) (by decide +kernel))) (goodIn_sub (fun _ h => List.mem_append_left _ (List.mem_append_right _ h)) (by decide +kernel))
set_option maxRecDepth 20000 in
theorem gL_law_L_compose : GoodIn wsL_law (va_wsS RL 133 yL_compose wsL_compose) := goodIn_app (goodIn_of _ (by decide +kernel)) ggL_law_L_compose
set_option maxRecDepth 20000 in
theorem ggL_law_X3_compose : GoodIn wsL_law wsX3_compose := goodIn_r _ [397, 98, 76, 75, 370, 15, 77, 398, 399, 400, 5, 401, 101, 102, 103, 104, 105, 106, 107, 259, 260, 261, 371, 372, 373, 374, 629, 630, 631, 632, 633, 634, 635, 636, 637, 638, 639, 640] (by decide +kernel) (by decide +kernel)
set_option maxRecDepth 20000 in
theorem gL_law_X3_compose : GoodIn wsL_law (wsV RL 135 RX3 yX3_compose wsX3_compose) := goodIn_app (goodIn_of _ (by decide +kernel)) ggL_law_X3_compose
set_option maxRecDepth 20000 in
theorem ggL_law_X2_patches : GoodIn wsL_law wsX2_patches := goodIn_r _ [405, 22, 123, 124, 125, 20, 126, 127, 621, 622, 623, 624, 625, 626, 627, 628, 641, 642, 643] (by decide +kernel) (by decide +kernel)
set_option maxRecDepth 20000 in
theorem gL_law_X2_patches : GoodIn wsL_law (wsV RL 136 RX2 yX2_patches wsX2_patches) := goodIn_app (goodIn_of _ (by decide +kernel)) ggL_law_X2_patches
set_option maxRecDepth 20000 in
theorem ggL_law_X3_patches : GoodIn wsL_law wsX3_patches := goodIn_r _ [409, 98, 370, 629, 630, 631, 632, 633, 634, 635, 636, 637, 638, 639, 640] (by decide +kernel) (by decide +kernel)
set_option maxRecDepth 20000 in
theorem gL_law_X3_patches : GoodIn wsL_law (wsV RL 139 RX3 yX3_patches wsX3_patches) := goodIn_app (goodIn_of _ (by decide +kernel)) ggL_law_X3_patches
set_option maxRecDepth 20000 in
theorem ggL_law_L_instructions : GoodIn wsL_law wsL_instructions := goodIn_ca (goodIn_r _ [412, 192, 413, 414, 415, 2, 416, 417, 386, 387, 388, 389, 202, 203, 22, 390, 123, 124, 125, 20, 126, 127, 205, 206, 207, 208, 209, 210, 211, 212, 213, 214, 215, 216, 217, 218, 219, 220, 34, 645, 646, 647, 648, 649, 650, 651, 621, 622, 623, 624, 625, 626, 627, 628, 641, 642, 643] (by decide +kernel) (by decide +kernel)) (goodIn_sub (fun _ h => List.mem_append_right _ h) (by decide +kernel))
set_option maxRecDepth 20000 in
theorem gL_law_L_instructions : GoodIn wsL_law (va_wsS RL 140 yL_instructions wsL_instructions) := goodIn_app (goodIn_of _ (by decide +kernel)) ggL_law_L_instructions
set_option maxRecDepth 20000 in
theorem ggL_law_X3_instructions : GoodIn wsL_law wsX3_instructions := goodIn_r _ [421, 98, 398, 399, 400, 5, 401, 370, 101, 102, 103, 422, 423, 424, 425, 77, 426, 427, 428, 429, 104, 105, 106, 107, 629, 630, 631, 632, 633, 634, 635, 636, 637, 638, 639, 640] (by decide +kernel) (by decide +kernel)
set_option maxRecDepth 20000 in
theorem gL_law_X3_instructions : GoodIn wsL_law (wsV RL 142 RX3 yX3_instructions wsX3_instructions) := goodIn_app (goodIn_of _ (by decide +kernel)) ggL_law_X3_instructions
set_option maxRecDepth 20000 in
theorem ggL_law_L_instruction : GoodIn wsL_law wsL_instruction := goodIn_ca (goodIn_r _ [432, 192, 433, 434, 435, 2, 436, 202, 203, 417, 386, 387, 388, 389, 22, 390, 123, 124, 125, 20, 126, 127, 205, 206, 207, 208, 209, 210, 211, 212, 213, 214, 215, 216, 217, 218, 219, 220, 34, 437, 438, 439, 327, 440, 350, 349, 348, 441, 270, 271, 25, 272, 49, 645, 646, 647, 648, 649, 650, 651, 621, 622, 623, 624, 625, 626, 627, 628, 641, 642, 643, 644] (by decide +kernel) (by decide +kernel)) (goodIn_sub (fun _ h => List.mem_append_right _ h) (by decide +kernel))
set_option maxRecDepth 20000 in
theorem gL_law_L_instruction : GoodIn wsL_law (va_wsS RL 143 yL_instruction wsL_instruction) := goodIn_app (goodIn_of _ (by decide +kernel)) ggL_law_L_instruction
set_option maxRecDepth 20000 in
theorem ggL_law_X3_instruction : GoodIn wsL_law wsX3_instruction := goodIn_r _ [445, 98, 398, 399, 400, 5, 401, 370, 101, 102, 103, 422, 423, 424, 425, 77, 426, 427, 428, 429, 446, 447, 448, 449, 76, 277, 278, 279, 104, 105, 106, 107, 629, 630, 631, 632, 633, 634, 635, 636, 637, 638, 639, 640] (by decide +kernel) (by decide +kernel)
set_option maxRecDepth 20000 in
theorem gL_law_X3_instruction : GoodIn wsL_law (wsV RL 145 RX3 yX3_instruction wsX3_instruction) := goodIn_app (goodIn_of _ (by decide +kernel)) ggL_law_X3_instruction
set_option maxRecDepth 20000 in
theorem ggL_law_L_cost : GoodIn wsL_law wsL_cost := goodIn_ca (goodIn_r _ [452, 192, 453, 454, 455, 2, 456, 457, 386, 387, 388, 389, 202, 203, 22, 390, 123, 124, 125, 20, 126, 127, 205, 206, 207, 208, 209, 210, 211, 212, 213, 214, 215, 216, 217, 218, 219, 220, 34, 645, 646, 647, 648, 649, 650, 651, 621, 622, 623, 624, 625, 626, 627, 628, 641, 642, 643] (by decide +kernel) (by decide +kernel)) (goodIn_sub (fun _ h => List.mem_append_right _ h) (by decide +kernel))
set_option maxRecDepth 20000 in
theorem gL_law_L_cost : GoodIn wsL_law (va_wsS RL 146 yL_cost wsL_cost) := goodIn_app (goodIn_of _ (by decide +kernel)) ggL_law_L_cost
set_option maxRecDepth 20000 in
theorem ggL_law_X3_cost : GoodIn wsL_law wsX3_cost := goodIn_r _ [461, 98, 398, 399, 400, 5, 401, 370, 101, 102, 103, 462, 463, 464, 465, 77, 466, 467, 468, 469, 426, 427, 428, 429, 104, 105, 106, 107, 629, 630, 631, 632, 633, 634, 635, 636, 637, 638, 639, 640] (by decide +kernel) (by decide +kernel)
set_option maxRecDepth 20000 in
theorem gL_law_X3_cost : GoodIn wsL_law (wsV RL 148 RX3 yX3_cost wsX3_cost) := goodIn_app (goodIn_of _ (by decide +kernel)) ggL_law_X3_cost
set_option maxRecDepth 20000 in
theorem ggL_law_L_newness : GoodIn wsL_law wsL_newness := goodIn_ca (goodIn_r _ [472, 192, 473, 474, 475, 2, 476, 384, 477, 386, 387, 388, 389, 202, 203, 22, 390, 123, 124, 125, 20, 126, 127, 205, 206, 207, 208, 209, 210, 211, 212, 213, 214, 215, 216, 217, 218, 219, 220, 34, 645, 646, 647, 648, 649, 650, 651, 621, 622, 623, 624, 625, 626, 627, 628, 641, 642, 643] (by decide +kernel) (by decide +kernel)) (goodIn_sub (fun _ h => List.mem_append_right _ h) (by decide +kernel))
set_option maxRecDepth 20000 in
theorem gL_law_L_newness : GoodIn wsL_law (va_wsS RL 149 yL_newness wsL_newness) := goodIn_app (goodIn_of _ (by decide +kernel)) ggL_law_L_newness
set_option maxRecDepth 20000 in
theorem ggL_law_X3_newness : GoodIn wsL_law wsX3_newness := goodIn_r _ [481, 98, 76, 398, 399, 400, 5, 401, 370, 101, 102, 103, 466, 467, 468, 469, 77, 629, 630, 631, 632, 633, 634, 635, 636, 637, 638, 639, 640] (by decide +kernel) (by decide +kernel)
set_option maxRecDepth 20000 in
theorem gL_law_X3_newness : GoodIn wsL_law (wsV RL 152 RX3 yX3_newness wsX3_newness) := goodIn_app (goodIn_of _ (by decide +kernel)) ggL_law_X3_newness
set_option maxRecDepth 20000 in
theorem ggL_law_L_apply : GoodIn wsL_law wsL_apply := goodIn_ca (goodIn_ca (goodIn_ca (goodIn_r _ [484, 192, 84, 85, 485, 486, 487, 2, 488, 90, 91, 383, 21, 385, 386, 387, 388, 389, 202, 203, 22, 390, 123, 124, 125, 20, 126, 127, 205, 206, 207, 208, 209, 210, 211, 212, 213, 214, 215, 216, 217, 218, 219, 220, 34, 198, 199, 200, 201, 204, 247, 248, 249, 25, 250, 49, 251, 252, 253, 254, 119, 120, 121, 122, 92, 93, 128, 129, 130, 131, 132, 133, 134, 135, 136, 137, 138, 139, 140, 141, 142, 143, 144, 145, 33, 146, 147, 62, 148, 149, 150, 151, 152, 153, 154, 155, 156, 157, 158, 159, 160, 52, 161, 162, 163, 164, 165, 166, 167, 168, 169, 170, 60, 61, 63, 64, 65, 66, 67, 645, 646, 647, 648, 649, 650, 651, 621, 622, 623, 624, 625, 626, 627, 628, 641, 642, 643, 644] (by decide +kernel) (by decide +kernel)) (goodIn_sub (fun _ h => List.mem_append_left _ (List.mem_append_left _ (List.mem_append_right _ h))) (by decide +kernel))) (goodIn_sub (fun _ h => List.mem_append_right _ h) (by decide +kernel))) (goodIn_sub (fun _ h => List.mem_append_left _ (List.mem_append_right _ h)) (by decide +kernel))
set_option maxRecDepth 20000 in
theorem gL_law_L_apply : GoodIn wsL_law (va_wsS RL 153 yL_apply wsL_apply) := goodIn_app (goodIn_of _ (by decide +kernel)) ggL_law_L_apply
set_option maxRecDepth 20000 in
theorem ggL_law_X3_apply : GoodIn wsL_law wsX3_apply := goodIn_r _ [492, 98, 74, 75, 175, 76, 398, 399, 400, 5, 401, 370, 101, 102, 103, 225, 226, 227, 228, 104, 105, 106, 107, 259, 260, 261, 177, 178, 179, 180, 629, 630, 631, 632, 633, 634, 635, 636, 637, 638, 639, 640] (by decide +kernel) (by decide +kernel)
set_option maxRecDepth 20000 in
theorem gL_law_X3_apply : GoodIn wsL_law (wsV RL 155 RX3 yX3_apply wsX3_apply) := goodIn_app (goodIn_of _ (by decide +kernel)) ggL_law_X3_apply
set_option maxRecDepth 20000 in
theorem ggL_law_L_steps : GoodIn wsL_law wsL_steps := goodIn_ca (goodIn_r _ [495, 192, 496, 497, 498, 2, 499, 500, 501, 502, 503, 29, 22, 390, 457, 338, 339, 340, 341, 198, 199, 200, 201, 202, 203, 21, 204, 123, 124, 125, 20, 126, 127, 205, 206, 207, 208, 209, 210, 211, 212, 213, 214, 215, 216, 217, 218, 219, 220, 34, 247, 248, 249, 25, 250, 49, 251, 252, 253, 254, 504, 505, 52, 506, 507, 508, 509, 510, 383, 382, 621, 622, 623, 624, 625, 626, 627, 628, 645, 646, 647, 648, 649, 650, 651, 641, 642, 643, 644] (by decide +kernel) (by decide +kernel)) (goodIn_sub (fun _ h => List.mem_append_right _ h) (by decide +kernel))
set_option maxRecDepth 20000 in
theorem gL_law_L_steps : GoodIn wsL_law (va_wsS RL 156 yL_steps wsL_steps) := goodIn_app (goodIn_of _ (by decide +kernel)) ggL_law_L_steps
set_option maxRecDepth 20000 in
theorem ggL_law_X3_steps : GoodIn wsL_law wsX3_steps := goodIn_r _ [514, 98, 74, 225, 226, 227, 5, 228, 175, 101, 102, 103, 515, 516, 517, 518, 370, 15, 75, 76, 259, 260, 261, 462, 463, 464, 465, 77, 466, 467, 468, 469, 426, 427, 428, 429, 104, 105, 106, 107, 629, 630, 631, 632, 633, 634, 635, 636, 637, 638, 639, 640] (by decide +kernel) (by decide +kernel)
set_option maxRecDepth 20000 in
theorem gL_law_X3_steps : GoodIn wsL_law (wsV RL 158 RX3 yX3_steps wsX3_steps) := goodIn_app (goodIn_of _ (by decide +kernel)) ggL_law_X3_steps
set_option maxRecDepth 20000 in
theorem ggL_law_L_leastCost : GoodIn wsL_law wsL_leastCost := goodIn_ca (goodIn_r _ [521, 192, 522, 523, 524, 2, 525, 500, 501, 502, 503, 29, 22, 390, 457, 338, 339, 340, 341, 198, 199, 200, 201, 202, 203, 21, 204, 123, 124, 125, 20, 126, 127, 205, 206, 207, 208, 209, 210, 211, 212, 213, 214, 215, 216, 217, 218, 219, 220, 34, 247, 248, 249, 25, 250, 49, 251, 252, 253, 254, 504, 505, 52, 506, 507, 508, 509, 510, 383, 382, 621, 622, 623, 624, 625, 626, 627, 628, 645, 646, 647, 648, 649, 650, 651, 641, 642, 643, 644] (by decide +kernel) (by decide +kernel)) (goodIn_sub (fun _ h => List.mem_append_right _ h) (by decide +kernel))
set_option maxRecDepth 20000 in
theorem gL_law_L_leastCost : GoodIn wsL_law (va_wsS RL 159 yL_leastCost wsL_leastCost) := goodIn_app (goodIn_of _ (by decide +kernel)) ggL_law_L_leastCost
set_option maxRecDepth 20000 in
theorem ggL_law_X3_leastCost : GoodIn wsL_law wsX3_leastCost := goodIn_r _ [529, 98, 74, 225, 226, 227, 5, 228, 175, 101, 102, 103, 515, 516, 517, 518, 370, 15, 75, 76, 259, 260, 261, 462, 463, 464, 465, 77, 466, 467, 468, 469, 426, 427, 428, 429, 104, 105, 106, 107, 629, 630, 631, 632, 633, 634, 635, 636, 637, 638, 639, 640] (by decide +kernel) (by decide +kernel)
set_option maxRecDepth 20000 in
theorem gL_law_X3_leastCost : GoodIn wsL_law (wsV RL 161 RX3 yX3_leastCost wsX3_leastCost) := goodIn_app (goodIn_of _ (by decide +kernel)) ggL_law_X3_leastCost
set_option maxRecDepth 20000 in
theorem ggL_law_L_installVersion : GoodIn wsL_law wsL_installVersion := goodIn_ca (goodIn_r _ [532, 192, 533, 534, 535, 2, 536, 198, 199, 200, 201, 202, 203, 21, 204, 123, 124, 125, 20, 126, 127, 205, 206, 207, 208, 209, 210, 211, 212, 213, 214, 215, 216, 217, 218, 219, 220, 34, 537, 538, 539, 540, 27, 26, 541, 542, 543, 544, 545, 546, 547, 548, 132, 133, 549, 65, 66, 67, 128, 129, 130, 131, 134, 135, 136, 137, 138, 139, 140, 141, 142, 143, 144, 145, 33, 146, 147, 62, 148, 149, 150, 151, 152, 153, 154, 155, 156, 157, 158, 159, 160, 52, 161, 162, 163, 164, 165, 166, 167, 168, 169, 170, 60, 61, 63, 64, 621, 622, 623, 624, 625, 626, 627, 628, 641, 642, 643] (by decide +kernel) (by decide +kernel)) (goodIn_sub (fun _ h => List.mem_append_right _ h) (by decide +kernel))
set_option maxRecDepth 20000 in
theorem gL_law_L_installVersion : GoodIn wsL_law (va_wsS RL 162 yL_installVersion wsL_installVersion) := goodIn_app (goodIn_of _ (by decide +kernel)) ggL_law_L_installVersion
set_option maxRecDepth 20000 in
theorem ggL_law_X3_installVersion : GoodIn wsL_law wsX3_installVersion := goodIn_r _ [553, 98, 74, 225, 226, 227, 5, 228, 175, 101, 102, 103, 554, 555, 556, 557, 558, 79, 78, 104, 105, 106, 107, 629, 630, 631, 632, 633, 634, 635, 636, 637, 638, 639, 640] (by decide +kernel) (by decide +kernel)
set_option maxRecDepth 20000 in
theorem gL_law_X3_installVersion : GoodIn wsL_law (wsV RL 164 RX3 yX3_installVersion wsX3_installVersion) := goodIn_app (goodIn_of _ (by decide +kernel)) ggL_law_X3_installVersion
set_option maxRecDepth 20000 in
theorem ggL_law_L_installPatch : GoodIn wsL_law wsL_installPatch := goodIn_ca (goodIn_ca (goodIn_r _ [561, 192, 84, 562, 563, 564, 2, 565, 90, 91, 26, 383, 385, 386, 387, 388, 389, 202, 203, 22, 390, 123, 124, 125, 20, 126, 127, 205, 206, 207, 208, 209, 210, 211, 212, 213, 214, 215, 216, 217, 218, 219, 220, 34, 198, 199, 200, 201, 21, 204, 247, 248, 249, 25, 250, 49, 251, 252, 253, 254, 537, 538, 539, 540, 27, 541, 542, 543, 544, 545, 546, 547, 548, 132, 133, 549, 65, 66, 67, 128, 129, 130, 131, 134, 135, 136, 137, 138, 139, 140, 141, 142, 143, 144, 145, 33, 146, 147, 62, 148, 149, 150, 151, 152, 153, 154, 155, 156, 157, 158, 159, 160, 52, 161, 162, 163, 164, 165, 166, 167, 168, 169, 170, 60, 61, 63, 64, 621, 622, 623, 624, 625, 626, 627, 628, 645, 646, 647, 648, 649, 650, 651, 641, 642, 643, 644] (by decide +kernel) (by decide +kernel)) (goodIn_sub (fun _ h => List.mem_append_left _ (List.mem_append_left _ (List.mem_append_right _ h))) (by decide +kernel))) (goodIn_sub (fun _ h => List.mem_append_right _ h) (by decide +kernel))
set_option maxRecDepth 20000 in
theorem gL_law_L_installPatch : GoodIn wsL_law (va_wsS RL 165 yL_installPatch wsL_installPatch) := goodIn_app (goodIn_of _ (by decide +kernel)) ggL_law_L_installPatch
set_option maxRecDepth 20000 in
theorem ggL_law_X3_installPatch : GoodIn wsL_law wsX3_installPatch := goodIn_r _ [569, 98, 78, 75, 76, 398, 399, 400, 5, 401, 370, 101, 102, 103, 104, 105, 106, 107, 259, 260, 261, 554, 555, 556, 557, 558, 79, 629, 630, 631, 632, 633, 634, 635, 636, 637, 638, 639, 640] (by decide +kernel) (by decide +kernel)
set_option maxRecDepth 20000 in
theorem gL_law_X3_installPatch : GoodIn wsL_law (wsV RL 167 RX3 yX3_installPatch wsX3_installPatch) := goodIn_app (goodIn_of _ (by decide +kernel)) ggL_law_X3_installPatch
set_option maxRecDepth 20000 in
theorem ggL_law_L_rollBack : GoodIn wsL_law wsL_rollBack := goodIn_ca (goodIn_r _ [572, 85, 573, 574, 575, 2, 576, 92, 93, 27, 204, 26, 123, 124, 125, 20, 126, 127, 205, 206, 207, 208, 209, 210, 211, 212, 213, 214, 215, 216, 217, 218, 219, 220, 34, 541, 542, 543, 544, 545, 546, 547, 548, 132, 133, 549, 65, 66, 67, 621, 622, 623, 624, 625, 626, 627, 628, 641, 642, 643] (by decide +kernel) (by decide +kernel)) (goodIn_sub (fun _ h => List.mem_append_left _ (List.mem_append_right _ h)) (by decide +kernel))
set_option maxRecDepth 20000 in
theorem gL_law_L_rollBack : GoodIn wsL_law (va_wsS RL 168 yL_rollBack wsL_rollBack) := goodIn_app (goodIn_of _ (by decide +kernel)) ggL_law_L_rollBack
set_option maxRecDepth 20000 in
theorem ggL_law_X3_rollBack : GoodIn wsL_law wsX3_rollBack := goodIn_r _ [580, 98, 558, 79, 78, 104, 105, 106, 5, 107, 629, 630, 631, 632, 633, 634, 635, 636, 637, 638, 639, 640] (by decide +kernel) (by decide +kernel)
set_option maxRecDepth 20000 in
theorem gL_law_X3_rollBack : GoodIn wsL_law (wsV RL 170 RX3 yX3_rollBack wsX3_rollBack) := goodIn_app (goodIn_of _ (by decide +kernel)) ggL_law_X3_rollBack
set_option maxRecDepth 20000 in
theorem ggL_law_L_isInstalled : GoodIn wsL_law wsL_isInstalled := goodIn_ca (goodIn_r _ [583, 192, 584, 585, 586, 2, 587, 26, 198, 199, 200, 201, 202, 203, 21, 204, 123, 124, 125, 20, 126, 127, 205, 206, 207, 208, 209, 210, 211, 212, 213, 214, 215, 216, 217, 218, 219, 220, 34, 247, 248, 249, 25, 250, 49, 251, 252, 253, 254, 621, 622, 623, 624, 625, 626, 627, 628, 641, 642, 643, 644] (by decide +kernel) (by decide +kernel)) (goodIn_sub (fun _ h => List.mem_append_right _ h) (by decide +kernel))
set_option maxRecDepth 20000 in
theorem gL_law_L_isInstalled : GoodIn wsL_law (va_wsS RL 171 yL_isInstalled wsL_isInstalled) := goodIn_app (goodIn_of _ (by decide +kernel)) ggL_law_L_isInstalled
set_option maxRecDepth 20000 in
theorem ggL_law_X3_isInstalled : GoodIn wsL_law wsX3_isInstalled := goodIn_r _ [591, 98, 78, 74, 225, 226, 227, 5, 228, 175, 101, 102, 103, 259, 260, 261, 629, 630, 631, 632, 633, 634, 635, 636, 637, 638, 639, 640] (by decide +kernel) (by decide +kernel)
set_option maxRecDepth 20000 in
theorem gL_law_X3_isInstalled : GoodIn wsL_law (wsV RL 173 RX3 yX3_isInstalled wsX3_isInstalled) := goodIn_app (goodIn_of _ (by decide +kernel)) ggL_law_X3_isInstalled
set_option maxRecDepth 20000 in
theorem ggL_law_X2_installedLength : GoodIn wsL_law wsX2_installedLength := goodIn_r _ [595, 26, 197, 621, 622, 623, 624, 625, 626, 627, 628, 644] (by decide +kernel) (by decide +kernel)
set_option maxRecDepth 20000 in
theorem gL_law_X2_installedLength : GoodIn wsL_law (wsV RL 174 RX2 yX2_installedLength wsX2_installedLength) := goodIn_app (goodIn_of _ (by decide +kernel)) ggL_law_X2_installedLength
set_option maxRecDepth 20000 in
theorem ggL_law_X3_installedLength : GoodIn wsL_law wsX3_installedLength := goodIn_r _ [599, 98, 78, 629, 630, 631, 632, 633, 634, 635, 636, 637, 638, 639, 640] (by decide +kernel) (by decide +kernel)
set_option maxRecDepth 20000 in
theorem gL_law_X3_installedLength : GoodIn wsL_law (wsV RL 177 RX3 yX3_installedLength wsX3_installedLength) := goodIn_app (goodIn_of _ (by decide +kernel)) ggL_law_X3_installedLength
set_option maxRecDepth 20000 in
theorem ggL_law_X2_digest : GoodIn wsL_law wsX2_digest := goodIn_r _ [603, 604, 16, 17, 605, 21, 204, 197, 22, 390, 26, 27, 606, 607, 2, 608, 123, 124, 125, 20, 126, 127, 205, 206, 207, 208, 209, 210, 211, 212, 213, 214, 215, 216, 217, 218, 219, 220, 34, 609, 610, 611, 417, 437, 438, 439, 327, 440, 350, 349, 348, 441, 270, 271, 25, 272, 49, 621, 622, 623, 624, 625, 626, 627, 628, 644, 641, 642, 643, 645, 646, 647, 648, 649, 650, 651] (by decide +kernel) (by decide +kernel)
set_option maxRecDepth 20000 in
theorem gL_law_X2_digest : GoodIn wsL_law (wsV RL 178 RX2 yX2_digest wsX2_digest) := goodIn_app (goodIn_of _ (by decide +kernel)) ggL_law_X2_digest
set_option maxRecDepth 20000 in
theorem ggL_law_X3_digest : GoodIn wsL_law wsX3_digest := goodIn_r _ [615, 98, 616, 72, 99, 617, 175, 74, 370, 78, 558, 618, 619, 5, 620, 422, 423, 424, 425, 77, 426, 427, 428, 429, 446, 447, 448, 449, 76, 277, 278, 279, 629, 630, 631, 632, 633, 634, 635, 636, 637, 638, 639, 640] (by decide +kernel) (by decide +kernel)
set_option maxRecDepth 20000 in
theorem gL_law_X3_digest : GoodIn wsL_law (wsV RL 182 RX3 yX3_digest wsX3_digest) := goodIn_app (goodIn_of _ (by decide +kernel)) ggL_law_X3_digest
end
section
theorem dL_law_0 : decode cL_law 0 = .ok (.new 8, 3) := by decide +kernel
theorem dL_law_3 : decode cL_law 3 = .ok (.dup, 1) := by decide +kernel
theorem dL_law_4 : decode cL_law 4 = .ok (.invokespecial 86, 3) := by decide +kernel
theorem dL_law_7 : decode cL_law 7 = .ok (.astore_n 1, 1) := by decide +kernel
theorem dL_law_8 : decode cL_law 8 = .ok (.new 87, 3) := by decide +kernel
theorem dL_law_11 : decode cL_law 11 = .ok (.dup, 1) := by decide +kernel
theorem dL_law_12 : decode cL_law 12 = .ok (.invokespecial 89, 3) := by decide +kernel
theorem dL_law_15 : decode cL_law 15 = .ok (.astore_n 2, 1) := by decide +kernel
theorem dL_law_16 : decode cL_law 16 = .ok (.iconst 1, 1) := by decide +kernel
theorem dL_law_17 : decode cL_law 17 = .ok (.newarray .long, 2) := by decide +kernel
theorem dL_law_19 : decode cL_law 19 = .ok (.astore_n 3, 1) := by decide +kernel
theorem dL_law_20 : decode cL_law 20 = .ok (.iconst 1, 1) := by decide +kernel
theorem dL_law_21 : decode cL_law 21 = .ok (.newarray .double, 2) := by decide +kernel
theorem dL_law_23 : decode cL_law 23 = .ok (.astore 4, 2) := by decide +kernel
theorem dL_law_25 : decode cL_law 25 = .ok (.iconst 0, 1) := by decide +kernel
theorem dL_law_26 : decode cL_law 26 = .ok (.istore 5, 2) := by decide +kernel
theorem dL_law_28 : decode cL_law 28 = .ok (.iload 5, 2) := by decide +kernel
theorem dL_law_30 : decode cL_law 30 = .ok (.aload_n 0, 1) := by decide +kernel
theorem dL_law_31 : decode cL_law 31 = .ok (.arraylength, 1) := by decide +kernel
theorem dL_law_32 : decode cL_law 32 = .ok (.iconst 4, 1) := by decide +kernel
theorem dL_law_33 : decode cL_law 33 = .ok (.isub, 1) := by decide +kernel
theorem dL_law_34 : decode cL_law 34 = .ok (.if_icmp .gt 1584, 3) := by decide +kernel
theorem dL_law_37 : decode cL_law 37 = .ok (.aload_n 0, 1) := by decide +kernel
theorem dL_law_38 : decode cL_law 38 = .ok (.iload 5, 2) := by decide +kernel
theorem dL_law_40 : decode cL_law 40 = .ok (.iaload, 1) := by decide +kernel
theorem dL_law_41 : decode cL_law 41 = .ok (.bipush 31, 2) := by decide +kernel
theorem dL_law_43 : decode cL_law 43 = .ok (.iand, 1) := by decide +kernel
theorem dL_law_44 : decode cL_law 44 = .ok (.tableswitch 1568 0 24 #[116, 216, 260, 273, 329, 397, 472, 552, 620, 688, 768, 836, 849, 905, 985, 1041, 1118, 1186, 1254, 1322, 1378, 1434, 1478, 1541, 1554], 116) := by decide +kernel
theorem dL_law_160 : decode cL_law 160 = .ok (.aload_n 1, 1) := by decide +kernel
theorem dL_law_161 : decode cL_law 161 = .ok (.aload_n 0, 1) := by decide +kernel
theorem dL_law_162 : decode cL_law 162 = .ok (.iload 5, 2) := by decide +kernel
theorem dL_law_164 : decode cL_law 164 = .ok (.iconst 1, 1) := by decide +kernel
theorem dL_law_165 : decode cL_law 165 = .ok (.iadd, 1) := by decide +kernel
theorem dL_law_166 : decode cL_law 166 = .ok (.iaload, 1) := by decide +kernel
theorem dL_law_167 : decode cL_law 167 = .ok (.i2l, 1) := by decide +kernel
theorem dL_law_168 : decode cL_law 168 = .ok (.bipush 32, 2) := by decide +kernel
theorem dL_law_170 : decode cL_law 170 = .ok (.lshl, 1) := by decide +kernel
theorem dL_law_171 : decode cL_law 171 = .ok (.aload_n 0, 1) := by decide +kernel
theorem dL_law_172 : decode cL_law 172 = .ok (.iload 5, 2) := by decide +kernel
theorem dL_law_174 : decode cL_law 174 = .ok (.iconst 2, 1) := by decide +kernel
theorem dL_law_175 : decode cL_law 175 = .ok (.iadd, 1) := by decide +kernel
theorem dL_law_176 : decode cL_law 176 = .ok (.iaload, 1) := by decide +kernel
theorem dL_law_177 : decode cL_law 177 = .ok (.i2l, 1) := by decide +kernel
theorem dL_law_178 : decode cL_law 178 = .ok (.ldc2_w 90, 3) := by decide +kernel
theorem dL_law_181 : decode cL_law 181 = .ok (.land, 1) := by decide +kernel
theorem dL_law_182 : decode cL_law 182 = .ok (.lor, 1) := by decide +kernel
theorem dL_law_183 : decode cL_law 183 = .ok (.aload_n 0, 1) := by decide +kernel
theorem dL_law_184 : decode cL_law 184 = .ok (.iload 5, 2) := by decide +kernel
theorem dL_law_186 : decode cL_law 186 = .ok (.iconst 3, 1) := by decide +kernel
theorem dL_law_187 : decode cL_law 187 = .ok (.iadd, 1) := by decide +kernel
theorem dL_law_188 : decode cL_law 188 = .ok (.iaload, 1) := by decide +kernel
theorem dL_law_189 : decode cL_law 189 = .ok (.aload_n 3, 1) := by decide +kernel
theorem dL_law_190 : decode cL_law 190 = .ok (.invokestatic 92, 3) := by decide +kernel
theorem dL_law_193 : decode cL_law 193 = .ok (.istore 6, 2) := by decide +kernel
theorem dL_law_195 : decode cL_law 195 = .ok (.aload_n 2, 1) := by decide +kernel
theorem dL_law_196 : decode cL_law 196 = .ok (.aload_n 0, 1) := by decide +kernel
theorem dL_law_197 : decode cL_law 197 = .ok (.iload 5, 2) := by decide +kernel
theorem dL_law_199 : decode cL_law 199 = .ok (.iconst 1, 1) := by decide +kernel
theorem dL_law_200 : decode cL_law 200 = .ok (.iadd, 1) := by decide +kernel
theorem dL_law_201 : decode cL_law 201 = .ok (.iaload, 1) := by decide +kernel
theorem dL_law_202 : decode cL_law 202 = .ok (.i2l, 1) := by decide +kernel
theorem dL_law_203 : decode cL_law 203 = .ok (.bipush 32, 2) := by decide +kernel
theorem dL_law_205 : decode cL_law 205 = .ok (.lshl, 1) := by decide +kernel
theorem dL_law_206 : decode cL_law 206 = .ok (.aload_n 0, 1) := by decide +kernel
theorem dL_law_207 : decode cL_law 207 = .ok (.iload 5, 2) := by decide +kernel
theorem dL_law_209 : decode cL_law 209 = .ok (.iconst 2, 1) := by decide +kernel
theorem dL_law_210 : decode cL_law 210 = .ok (.iadd, 1) := by decide +kernel
theorem dL_law_211 : decode cL_law 211 = .ok (.iaload, 1) := by decide +kernel
theorem dL_law_212 : decode cL_law 212 = .ok (.i2l, 1) := by decide +kernel
theorem dL_law_213 : decode cL_law 213 = .ok (.ldc2_w 90, 3) := by decide +kernel
theorem dL_law_216 : decode cL_law 216 = .ok (.land, 1) := by decide +kernel
theorem dL_law_217 : decode cL_law 217 = .ok (.lor, 1) := by decide +kernel
theorem dL_law_218 : decode cL_law 218 = .ok (.aload_n 0, 1) := by decide +kernel
theorem dL_law_219 : decode cL_law 219 = .ok (.iload 5, 2) := by decide +kernel
theorem dL_law_221 : decode cL_law 221 = .ok (.iconst 3, 1) := by decide +kernel
theorem dL_law_222 : decode cL_law 222 = .ok (.iadd, 1) := by decide +kernel
theorem dL_law_223 : decode cL_law 223 = .ok (.iaload, 1) := by decide +kernel
theorem dL_law_224 : decode cL_law 224 = .ok (.invokevirtual 97, 3) := by decide +kernel
theorem dL_law_227 : decode cL_law 227 = .ok (.istore 7, 2) := by decide +kernel
theorem dL_law_229 : decode cL_law 229 = .ok (.aload_n 2, 1) := by decide +kernel
theorem dL_law_230 : decode cL_law 230 = .ok (.invokevirtual 98, 3) := by decide +kernel
theorem dL_law_233 : decode cL_law 233 = .ok (.iload 6, 2) := by decide +kernel
theorem dL_law_235 : decode cL_law 235 = .ok (.if_icmp .eq 5, 3) := by decide +kernel
theorem dL_law_238 : decode cL_law 238 = .ok (.iconst 0, 1) := by decide +kernel
theorem dL_law_239 : decode cL_law 239 = .ok (.ireturn, 1) := by decide +kernel
theorem dL_law_240 : decode cL_law 240 = .ok (.iload 6, 2) := by decide +kernel
theorem dL_law_242 : decode cL_law 242 = .ok (.ifCond .ne 15, 3) := by decide +kernel
theorem dL_law_245 : decode cL_law 245 = .ok (.aload_n 3, 1) := by decide +kernel
theorem dL_law_246 : decode cL_law 246 = .ok (.iconst 0, 1) := by decide +kernel
theorem dL_law_247 : decode cL_law 247 = .ok (.laload, 1) := by decide +kernel
theorem dL_law_248 : decode cL_law 248 = .ok (.iload 7, 2) := by decide +kernel
theorem dL_law_250 : decode cL_law 250 = .ok (.i2l, 1) := by decide +kernel
theorem dL_law_251 : decode cL_law 251 = .ok (.lcmp, 1) := by decide +kernel
theorem dL_law_252 : decode cL_law 252 = .ok (.ifCond .eq 5, 3) := by decide +kernel
theorem dL_law_255 : decode cL_law 255 = .ok (.iconst 0, 1) := by decide +kernel
theorem dL_law_256 : decode cL_law 256 = .ok (.ireturn, 1) := by decide +kernel
theorem dL_law_257 : decode cL_law 257 = .ok (.goto 1355, 3) := by decide +kernel
theorem dL_law_260 : decode cL_law 260 = .ok (.aload_n 1, 1) := by decide +kernel
theorem dL_law_261 : decode cL_law 261 = .ok (.aload_n 3, 1) := by decide +kernel
theorem dL_law_262 : decode cL_law 262 = .ok (.invokestatic 101, 3) := by decide +kernel
theorem dL_law_265 : decode cL_law 265 = .ok (.istore 6, 2) := by decide +kernel
theorem dL_law_267 : decode cL_law 267 = .ok (.aload_n 2, 1) := by decide +kernel
theorem dL_law_268 : decode cL_law 268 = .ok (.invokevirtual 104, 3) := by decide +kernel
theorem dL_law_271 : decode cL_law 271 = .ok (.istore 7, 2) := by decide +kernel
theorem dL_law_273 : decode cL_law 273 = .ok (.aload_n 2, 1) := by decide +kernel
theorem dL_law_274 : decode cL_law 274 = .ok (.invokevirtual 98, 3) := by decide +kernel
theorem dL_law_277 : decode cL_law 277 = .ok (.iload 6, 2) := by decide +kernel
theorem dL_law_279 : decode cL_law 279 = .ok (.if_icmp .eq 5, 3) := by decide +kernel
theorem dL_law_282 : decode cL_law 282 = .ok (.iconst 0, 1) := by decide +kernel
theorem dL_law_283 : decode cL_law 283 = .ok (.ireturn, 1) := by decide +kernel
theorem dL_law_284 : decode cL_law 284 = .ok (.iload 6, 2) := by decide +kernel
theorem dL_law_286 : decode cL_law 286 = .ok (.ifCond .ne 15, 3) := by decide +kernel
theorem dL_law_289 : decode cL_law 289 = .ok (.aload_n 3, 1) := by decide +kernel
theorem dL_law_290 : decode cL_law 290 = .ok (.iconst 0, 1) := by decide +kernel
theorem dL_law_291 : decode cL_law 291 = .ok (.laload, 1) := by decide +kernel
theorem dL_law_292 : decode cL_law 292 = .ok (.iload 7, 2) := by decide +kernel
theorem dL_law_294 : decode cL_law 294 = .ok (.i2l, 1) := by decide +kernel
theorem dL_law_295 : decode cL_law 295 = .ok (.lcmp, 1) := by decide +kernel
theorem dL_law_296 : decode cL_law 296 = .ok (.ifCond .eq 5, 3) := by decide +kernel
theorem dL_law_299 : decode cL_law 299 = .ok (.iconst 0, 1) := by decide +kernel
theorem dL_law_300 : decode cL_law 300 = .ok (.ireturn, 1) := by decide +kernel
theorem dL_law_301 : decode cL_law 301 = .ok (.goto 1311, 3) := by decide +kernel
theorem dL_law_304 : decode cL_law 304 = .ok (.aload_n 1, 1) := by decide +kernel
theorem dL_law_305 : decode cL_law 305 = .ok (.invokevirtual 105, 3) := by decide +kernel
theorem dL_law_308 : decode cL_law 308 = .ok (.aload_n 2, 1) := by decide +kernel
theorem dL_law_309 : decode cL_law 309 = .ok (.invokevirtual 108, 3) := by decide +kernel
theorem dL_law_312 : decode cL_law 312 = .ok (.if_icmp .eq 1300, 3) := by decide +kernel
theorem dL_law_315 : decode cL_law 315 = .ok (.iconst 0, 1) := by decide +kernel
theorem dL_law_316 : decode cL_law 316 = .ok (.ireturn, 1) := by decide +kernel
theorem dL_law_317 : decode cL_law 317 = .ok (.aload_n 1, 1) := by decide +kernel
theorem dL_law_318 : decode cL_law 318 = .ok (.aload_n 0, 1) := by decide +kernel
theorem dL_law_319 : decode cL_law 319 = .ok (.iload 5, 2) := by decide +kernel
theorem dL_law_321 : decode cL_law 321 = .ok (.iconst 1, 1) := by decide +kernel
theorem dL_law_322 : decode cL_law 322 = .ok (.iadd, 1) := by decide +kernel
theorem dL_law_323 : decode cL_law 323 = .ok (.iaload, 1) := by decide +kernel
theorem dL_law_324 : decode cL_law 324 = .ok (.aload_n 3, 1) := by decide +kernel
theorem dL_law_325 : decode cL_law 325 = .ok (.invokestatic 109, 3) := by decide +kernel
theorem dL_law_328 : decode cL_law 328 = .ok (.istore 6, 2) := by decide +kernel
theorem dL_law_330 : decode cL_law 330 = .ok (.aload_n 2, 1) := by decide +kernel
theorem dL_law_331 : decode cL_law 331 = .ok (.aload_n 0, 1) := by decide +kernel
theorem dL_law_332 : decode cL_law 332 = .ok (.iload 5, 2) := by decide +kernel
theorem dL_law_334 : decode cL_law 334 = .ok (.iconst 1, 1) := by decide +kernel
theorem dL_law_335 : decode cL_law 335 = .ok (.iadd, 1) := by decide +kernel
theorem dL_law_336 : decode cL_law 336 = .ok (.iaload, 1) := by decide +kernel
theorem dL_law_337 : decode cL_law 337 = .ok (.invokevirtual 112, 3) := by decide +kernel
theorem dL_law_340 : decode cL_law 340 = .ok (.istore 7, 2) := by decide +kernel
theorem dL_law_342 : decode cL_law 342 = .ok (.aload_n 2, 1) := by decide +kernel
theorem dL_law_343 : decode cL_law 343 = .ok (.invokevirtual 98, 3) := by decide +kernel
theorem dL_law_346 : decode cL_law 346 = .ok (.iload 6, 2) := by decide +kernel
theorem dL_law_348 : decode cL_law 348 = .ok (.if_icmp .eq 5, 3) := by decide +kernel
theorem dL_law_351 : decode cL_law 351 = .ok (.iconst 0, 1) := by decide +kernel
theorem dL_law_352 : decode cL_law 352 = .ok (.ireturn, 1) := by decide +kernel
theorem dL_law_353 : decode cL_law 353 = .ok (.iload 6, 2) := by decide +kernel
theorem dL_law_355 : decode cL_law 355 = .ok (.ifCond .ne 15, 3) := by decide +kernel
theorem dL_law_358 : decode cL_law 358 = .ok (.aload_n 3, 1) := by decide +kernel
theorem dL_law_359 : decode cL_law 359 = .ok (.iconst 0, 1) := by decide +kernel
theorem dL_law_360 : decode cL_law 360 = .ok (.laload, 1) := by decide +kernel
theorem dL_law_361 : decode cL_law 361 = .ok (.iload 7, 2) := by decide +kernel
theorem dL_law_363 : decode cL_law 363 = .ok (.i2l, 1) := by decide +kernel
theorem dL_law_364 : decode cL_law 364 = .ok (.lcmp, 1) := by decide +kernel
theorem dL_law_365 : decode cL_law 365 = .ok (.ifCond .eq 5, 3) := by decide +kernel
theorem dL_law_368 : decode cL_law 368 = .ok (.iconst 0, 1) := by decide +kernel
theorem dL_law_369 : decode cL_law 369 = .ok (.ireturn, 1) := by decide +kernel
theorem dL_law_370 : decode cL_law 370 = .ok (.goto 1242, 3) := by decide +kernel
theorem dL_law_373 : decode cL_law 373 = .ok (.aload_n 1, 1) := by decide +kernel
theorem dL_law_374 : decode cL_law 374 = .ok (.aload_n 0, 1) := by decide +kernel
theorem dL_law_375 : decode cL_law 375 = .ok (.iload 5, 2) := by decide +kernel
theorem dL_law_377 : decode cL_law 377 = .ok (.iconst 1, 1) := by decide +kernel
theorem dL_law_378 : decode cL_law 378 = .ok (.iadd, 1) := by decide +kernel
theorem dL_law_379 : decode cL_law 379 = .ok (.iaload, 1) := by decide +kernel
theorem dL_law_380 : decode cL_law 380 = .ok (.aload_n 0, 1) := by decide +kernel
theorem dL_law_381 : decode cL_law 381 = .ok (.iload 5, 2) := by decide +kernel
theorem dL_law_383 : decode cL_law 383 = .ok (.iconst 2, 1) := by decide +kernel
theorem dL_law_384 : decode cL_law 384 = .ok (.iadd, 1) := by decide +kernel
theorem dL_law_385 : decode cL_law 385 = .ok (.iaload, 1) := by decide +kernel
theorem dL_law_386 : decode cL_law 386 = .ok (.aload_n 3, 1) := by decide +kernel
theorem dL_law_387 : decode cL_law 387 = .ok (.invokestatic 113, 3) := by decide +kernel
theorem dL_law_390 : decode cL_law 390 = .ok (.istore 6, 2) := by decide +kernel
theorem dL_law_392 : decode cL_law 392 = .ok (.aload_n 2, 1) := by decide +kernel
theorem dL_law_393 : decode cL_law 393 = .ok (.aload_n 0, 1) := by decide +kernel
theorem dL_law_394 : decode cL_law 394 = .ok (.iload 5, 2) := by decide +kernel
theorem dL_law_396 : decode cL_law 396 = .ok (.iconst 1, 1) := by decide +kernel
theorem dL_law_397 : decode cL_law 397 = .ok (.iadd, 1) := by decide +kernel
theorem dL_law_398 : decode cL_law 398 = .ok (.iaload, 1) := by decide +kernel
theorem dL_law_399 : decode cL_law 399 = .ok (.aload_n 0, 1) := by decide +kernel
theorem dL_law_400 : decode cL_law 400 = .ok (.iload 5, 2) := by decide +kernel
theorem dL_law_402 : decode cL_law 402 = .ok (.iconst 2, 1) := by decide +kernel
theorem dL_law_403 : decode cL_law 403 = .ok (.iadd, 1) := by decide +kernel
theorem dL_law_404 : decode cL_law 404 = .ok (.iaload, 1) := by decide +kernel
theorem dL_law_405 : decode cL_law 405 = .ok (.invokevirtual 116, 3) := by decide +kernel
theorem dL_law_408 : decode cL_law 408 = .ok (.istore 7, 2) := by decide +kernel
theorem dL_law_410 : decode cL_law 410 = .ok (.aload_n 2, 1) := by decide +kernel
theorem dL_law_411 : decode cL_law 411 = .ok (.invokevirtual 98, 3) := by decide +kernel
theorem dL_law_414 : decode cL_law 414 = .ok (.iload 6, 2) := by decide +kernel
theorem dL_law_416 : decode cL_law 416 = .ok (.if_icmp .eq 5, 3) := by decide +kernel
theorem dL_law_419 : decode cL_law 419 = .ok (.iconst 0, 1) := by decide +kernel
theorem dL_law_420 : decode cL_law 420 = .ok (.ireturn, 1) := by decide +kernel
theorem dL_law_421 : decode cL_law 421 = .ok (.iload 6, 2) := by decide +kernel
theorem dL_law_423 : decode cL_law 423 = .ok (.ifCond .ne 15, 3) := by decide +kernel
theorem dL_law_426 : decode cL_law 426 = .ok (.aload_n 3, 1) := by decide +kernel
theorem dL_law_427 : decode cL_law 427 = .ok (.iconst 0, 1) := by decide +kernel
theorem dL_law_428 : decode cL_law 428 = .ok (.laload, 1) := by decide +kernel
theorem dL_law_429 : decode cL_law 429 = .ok (.iload 7, 2) := by decide +kernel
theorem dL_law_431 : decode cL_law 431 = .ok (.i2l, 1) := by decide +kernel
theorem dL_law_432 : decode cL_law 432 = .ok (.lcmp, 1) := by decide +kernel
theorem dL_law_433 : decode cL_law 433 = .ok (.ifCond .eq 5, 3) := by decide +kernel
theorem dL_law_436 : decode cL_law 436 = .ok (.iconst 0, 1) := by decide +kernel
theorem dL_law_437 : decode cL_law 437 = .ok (.ireturn, 1) := by decide +kernel
theorem dL_law_438 : decode cL_law 438 = .ok (.goto 1174, 3) := by decide +kernel
theorem dL_law_441 : decode cL_law 441 = .ok (.aload_n 1, 1) := by decide +kernel
theorem dL_law_442 : decode cL_law 442 = .ok (.aload_n 0, 1) := by decide +kernel
theorem dL_law_443 : decode cL_law 443 = .ok (.iload 5, 2) := by decide +kernel
theorem dL_law_445 : decode cL_law 445 = .ok (.iconst 1, 1) := by decide +kernel
theorem dL_law_446 : decode cL_law 446 = .ok (.iadd, 1) := by decide +kernel
theorem dL_law_447 : decode cL_law 447 = .ok (.iaload, 1) := by decide +kernel
theorem dL_law_448 : decode cL_law 448 = .ok (.aload_n 0, 1) := by decide +kernel
theorem dL_law_449 : decode cL_law 449 = .ok (.iload 5, 2) := by decide +kernel
theorem dL_law_451 : decode cL_law 451 = .ok (.iconst 2, 1) := by decide +kernel
theorem dL_law_452 : decode cL_law 452 = .ok (.iadd, 1) := by decide +kernel
theorem dL_law_453 : decode cL_law 453 = .ok (.iaload, 1) := by decide +kernel
theorem dL_law_454 : decode cL_law 454 = .ok (.aload_n 3, 1) := by decide +kernel
theorem dL_law_455 : decode cL_law 455 = .ok (.invokestatic 117, 3) := by decide +kernel
theorem dL_law_458 : decode cL_law 458 = .ok (.istore 6, 2) := by decide +kernel
theorem dL_law_460 : decode cL_law 460 = .ok (.aload_n 2, 1) := by decide +kernel
theorem dL_law_461 : decode cL_law 461 = .ok (.aload_n 0, 1) := by decide +kernel
theorem dL_law_462 : decode cL_law 462 = .ok (.iload 5, 2) := by decide +kernel
theorem dL_law_464 : decode cL_law 464 = .ok (.iconst 1, 1) := by decide +kernel
theorem dL_law_465 : decode cL_law 465 = .ok (.iadd, 1) := by decide +kernel
theorem dL_law_466 : decode cL_law 466 = .ok (.iaload, 1) := by decide +kernel
theorem dL_law_467 : decode cL_law 467 = .ok (.aload_n 0, 1) := by decide +kernel
theorem dL_law_468 : decode cL_law 468 = .ok (.iload 5, 2) := by decide +kernel
theorem dL_law_470 : decode cL_law 470 = .ok (.iconst 2, 1) := by decide +kernel
theorem dL_law_471 : decode cL_law 471 = .ok (.iadd, 1) := by decide +kernel
theorem dL_law_472 : decode cL_law 472 = .ok (.iaload, 1) := by decide +kernel
theorem dL_law_473 : decode cL_law 473 = .ok (.invokevirtual 119, 3) := by decide +kernel
theorem dL_law_476 : decode cL_law 476 = .ok (.istore 7, 2) := by decide +kernel
theorem dL_law_478 : decode cL_law 478 = .ok (.aload_n 2, 1) := by decide +kernel
theorem dL_law_479 : decode cL_law 479 = .ok (.invokevirtual 98, 3) := by decide +kernel
theorem dL_law_482 : decode cL_law 482 = .ok (.iload 6, 2) := by decide +kernel
theorem dL_law_484 : decode cL_law 484 = .ok (.if_icmp .eq 5, 3) := by decide +kernel
theorem dL_law_487 : decode cL_law 487 = .ok (.iconst 0, 1) := by decide +kernel
theorem dL_law_488 : decode cL_law 488 = .ok (.ireturn, 1) := by decide +kernel
theorem dL_law_489 : decode cL_law 489 = .ok (.iload 6, 2) := by decide +kernel
theorem dL_law_491 : decode cL_law 491 = .ok (.ifCond .ne 22, 3) := by decide +kernel
theorem dL_law_494 : decode cL_law 494 = .ok (.aload_n 3, 1) := by decide +kernel
theorem dL_law_495 : decode cL_law 495 = .ok (.iconst 0, 1) := by decide +kernel
theorem dL_law_496 : decode cL_law 496 = .ok (.laload, 1) := by decide +kernel
theorem dL_law_497 : decode cL_law 497 = .ok (.iload 7, 2) := by decide +kernel
theorem dL_law_499 : decode cL_law 499 = .ok (.ifCond .eq 7, 3) := by decide +kernel
theorem dL_law_502 : decode cL_law 502 = .ok (.lconst 1, 1) := by decide +kernel
theorem dL_law_503 : decode cL_law 503 = .ok (.goto 4, 3) := by decide +kernel
theorem dL_law_506 : decode cL_law 506 = .ok (.lconst 0, 1) := by decide +kernel
theorem dL_law_507 : decode cL_law 507 = .ok (.lcmp, 1) := by decide +kernel
theorem dL_law_508 : decode cL_law 508 = .ok (.ifCond .eq 5, 3) := by decide +kernel
theorem dL_law_511 : decode cL_law 511 = .ok (.iconst 0, 1) := by decide +kernel
theorem dL_law_512 : decode cL_law 512 = .ok (.ireturn, 1) := by decide +kernel
theorem dL_law_513 : decode cL_law 513 = .ok (.goto 1099, 3) := by decide +kernel
theorem dL_law_516 : decode cL_law 516 = .ok (.aload_n 1, 1) := by decide +kernel
theorem dL_law_517 : decode cL_law 517 = .ok (.aload_n 0, 1) := by decide +kernel
theorem dL_law_518 : decode cL_law 518 = .ok (.iload 5, 2) := by decide +kernel
theorem dL_law_520 : decode cL_law 520 = .ok (.iconst 1, 1) := by decide +kernel
theorem dL_law_521 : decode cL_law 521 = .ok (.iadd, 1) := by decide +kernel
theorem dL_law_522 : decode cL_law 522 = .ok (.iaload, 1) := by decide +kernel
theorem dL_law_523 : decode cL_law 523 = .ok (.aload_n 0, 1) := by decide +kernel
theorem dL_law_524 : decode cL_law 524 = .ok (.iload 5, 2) := by decide +kernel
theorem dL_law_526 : decode cL_law 526 = .ok (.iconst 2, 1) := by decide +kernel
theorem dL_law_527 : decode cL_law 527 = .ok (.iadd, 1) := by decide +kernel
theorem dL_law_528 : decode cL_law 528 = .ok (.iaload, 1) := by decide +kernel
theorem dL_law_529 : decode cL_law 529 = .ok (.aload_n 0, 1) := by decide +kernel
theorem dL_law_530 : decode cL_law 530 = .ok (.iload 5, 2) := by decide +kernel
theorem dL_law_532 : decode cL_law 532 = .ok (.iconst 3, 1) := by decide +kernel
theorem dL_law_533 : decode cL_law 533 = .ok (.iadd, 1) := by decide +kernel
theorem dL_law_534 : decode cL_law 534 = .ok (.iaload, 1) := by decide +kernel
theorem dL_law_535 : decode cL_law 535 = .ok (.aload_n 3, 1) := by decide +kernel
theorem dL_law_536 : decode cL_law 536 = .ok (.invokestatic 120, 3) := by decide +kernel
theorem dL_law_539 : decode cL_law 539 = .ok (.istore 6, 2) := by decide +kernel
theorem dL_law_541 : decode cL_law 541 = .ok (.aload_n 2, 1) := by decide +kernel
theorem dL_law_542 : decode cL_law 542 = .ok (.aload_n 0, 1) := by decide +kernel
theorem dL_law_543 : decode cL_law 543 = .ok (.iload 5, 2) := by decide +kernel
theorem dL_law_545 : decode cL_law 545 = .ok (.iconst 1, 1) := by decide +kernel
theorem dL_law_546 : decode cL_law 546 = .ok (.iadd, 1) := by decide +kernel
theorem dL_law_547 : decode cL_law 547 = .ok (.iaload, 1) := by decide +kernel
theorem dL_law_548 : decode cL_law 548 = .ok (.aload_n 0, 1) := by decide +kernel
theorem dL_law_549 : decode cL_law 549 = .ok (.iload 5, 2) := by decide +kernel
theorem dL_law_551 : decode cL_law 551 = .ok (.iconst 2, 1) := by decide +kernel
theorem dL_law_552 : decode cL_law 552 = .ok (.iadd, 1) := by decide +kernel
theorem dL_law_553 : decode cL_law 553 = .ok (.iaload, 1) := by decide +kernel
theorem dL_law_554 : decode cL_law 554 = .ok (.aload_n 0, 1) := by decide +kernel
theorem dL_law_555 : decode cL_law 555 = .ok (.iload 5, 2) := by decide +kernel
theorem dL_law_557 : decode cL_law 557 = .ok (.iconst 3, 1) := by decide +kernel
theorem dL_law_558 : decode cL_law 558 = .ok (.iadd, 1) := by decide +kernel
theorem dL_law_559 : decode cL_law 559 = .ok (.iaload, 1) := by decide +kernel
theorem dL_law_560 : decode cL_law 560 = .ok (.invokevirtual 123, 3) := by decide +kernel
theorem dL_law_563 : decode cL_law 563 = .ok (.istore 7, 2) := by decide +kernel
theorem dL_law_565 : decode cL_law 565 = .ok (.aload_n 2, 1) := by decide +kernel
theorem dL_law_566 : decode cL_law 566 = .ok (.invokevirtual 98, 3) := by decide +kernel
theorem dL_law_569 : decode cL_law 569 = .ok (.iload 6, 2) := by decide +kernel
theorem dL_law_571 : decode cL_law 571 = .ok (.if_icmp .eq 5, 3) := by decide +kernel
theorem dL_law_574 : decode cL_law 574 = .ok (.iconst 0, 1) := by decide +kernel
theorem dL_law_575 : decode cL_law 575 = .ok (.ireturn, 1) := by decide +kernel
theorem dL_law_576 : decode cL_law 576 = .ok (.iload 6, 2) := by decide +kernel
theorem dL_law_578 : decode cL_law 578 = .ok (.ifCond .ne 15, 3) := by decide +kernel
theorem dL_law_581 : decode cL_law 581 = .ok (.aload_n 3, 1) := by decide +kernel
theorem dL_law_582 : decode cL_law 582 = .ok (.iconst 0, 1) := by decide +kernel
theorem dL_law_583 : decode cL_law 583 = .ok (.laload, 1) := by decide +kernel
theorem dL_law_584 : decode cL_law 584 = .ok (.iload 7, 2) := by decide +kernel
theorem dL_law_586 : decode cL_law 586 = .ok (.i2l, 1) := by decide +kernel
theorem dL_law_587 : decode cL_law 587 = .ok (.lcmp, 1) := by decide +kernel
theorem dL_law_588 : decode cL_law 588 = .ok (.ifCond .eq 5, 3) := by decide +kernel
theorem dL_law_591 : decode cL_law 591 = .ok (.iconst 0, 1) := by decide +kernel
theorem dL_law_592 : decode cL_law 592 = .ok (.ireturn, 1) := by decide +kernel
theorem dL_law_593 : decode cL_law 593 = .ok (.goto 1019, 3) := by decide +kernel
theorem dL_law_596 : decode cL_law 596 = .ok (.aload_n 1, 1) := by decide +kernel
theorem dL_law_597 : decode cL_law 597 = .ok (.aload_n 0, 1) := by decide +kernel
theorem dL_law_598 : decode cL_law 598 = .ok (.iload 5, 2) := by decide +kernel
theorem dL_law_600 : decode cL_law 600 = .ok (.iconst 1, 1) := by decide +kernel
theorem dL_law_601 : decode cL_law 601 = .ok (.iadd, 1) := by decide +kernel
theorem dL_law_602 : decode cL_law 602 = .ok (.iaload, 1) := by decide +kernel
theorem dL_law_603 : decode cL_law 603 = .ok (.aload_n 0, 1) := by decide +kernel
theorem dL_law_604 : decode cL_law 604 = .ok (.iload 5, 2) := by decide +kernel
theorem dL_law_606 : decode cL_law 606 = .ok (.iconst 2, 1) := by decide +kernel
theorem dL_law_607 : decode cL_law 607 = .ok (.iadd, 1) := by decide +kernel
theorem dL_law_608 : decode cL_law 608 = .ok (.iaload, 1) := by decide +kernel
theorem dL_law_609 : decode cL_law 609 = .ok (.aload_n 3, 1) := by decide +kernel
theorem dL_law_610 : decode cL_law 610 = .ok (.invokestatic 124, 3) := by decide +kernel
theorem dL_law_613 : decode cL_law 613 = .ok (.istore 6, 2) := by decide +kernel
theorem dL_law_615 : decode cL_law 615 = .ok (.aload_n 2, 1) := by decide +kernel
theorem dL_law_616 : decode cL_law 616 = .ok (.aload_n 0, 1) := by decide +kernel
theorem dL_law_617 : decode cL_law 617 = .ok (.iload 5, 2) := by decide +kernel
theorem dL_law_619 : decode cL_law 619 = .ok (.iconst 1, 1) := by decide +kernel
theorem dL_law_620 : decode cL_law 620 = .ok (.iadd, 1) := by decide +kernel
theorem dL_law_621 : decode cL_law 621 = .ok (.iaload, 1) := by decide +kernel
theorem dL_law_622 : decode cL_law 622 = .ok (.aload_n 0, 1) := by decide +kernel
theorem dL_law_623 : decode cL_law 623 = .ok (.iload 5, 2) := by decide +kernel
theorem dL_law_625 : decode cL_law 625 = .ok (.iconst 2, 1) := by decide +kernel
theorem dL_law_626 : decode cL_law 626 = .ok (.iadd, 1) := by decide +kernel
theorem dL_law_627 : decode cL_law 627 = .ok (.iaload, 1) := by decide +kernel
theorem dL_law_628 : decode cL_law 628 = .ok (.invokevirtual 126, 3) := by decide +kernel
theorem dL_law_631 : decode cL_law 631 = .ok (.istore 7, 2) := by decide +kernel
theorem dL_law_633 : decode cL_law 633 = .ok (.aload_n 2, 1) := by decide +kernel
theorem dL_law_634 : decode cL_law 634 = .ok (.invokevirtual 98, 3) := by decide +kernel
theorem dL_law_637 : decode cL_law 637 = .ok (.iload 6, 2) := by decide +kernel
theorem dL_law_639 : decode cL_law 639 = .ok (.if_icmp .eq 5, 3) := by decide +kernel
theorem dL_law_642 : decode cL_law 642 = .ok (.iconst 0, 1) := by decide +kernel
theorem dL_law_643 : decode cL_law 643 = .ok (.ireturn, 1) := by decide +kernel
theorem dL_law_644 : decode cL_law 644 = .ok (.iload 6, 2) := by decide +kernel
theorem dL_law_646 : decode cL_law 646 = .ok (.ifCond .ne 15, 3) := by decide +kernel
theorem dL_law_649 : decode cL_law 649 = .ok (.aload_n 3, 1) := by decide +kernel
theorem dL_law_650 : decode cL_law 650 = .ok (.iconst 0, 1) := by decide +kernel
theorem dL_law_651 : decode cL_law 651 = .ok (.laload, 1) := by decide +kernel
theorem dL_law_652 : decode cL_law 652 = .ok (.iload 7, 2) := by decide +kernel
theorem dL_law_654 : decode cL_law 654 = .ok (.i2l, 1) := by decide +kernel
theorem dL_law_655 : decode cL_law 655 = .ok (.lcmp, 1) := by decide +kernel
theorem dL_law_656 : decode cL_law 656 = .ok (.ifCond .eq 5, 3) := by decide +kernel
theorem dL_law_659 : decode cL_law 659 = .ok (.iconst 0, 1) := by decide +kernel
theorem dL_law_660 : decode cL_law 660 = .ok (.ireturn, 1) := by decide +kernel
theorem dL_law_661 : decode cL_law 661 = .ok (.goto 951, 3) := by decide +kernel
theorem dL_law_664 : decode cL_law 664 = .ok (.aload_n 1, 1) := by decide +kernel
theorem dL_law_665 : decode cL_law 665 = .ok (.aload_n 0, 1) := by decide +kernel
theorem dL_law_666 : decode cL_law 666 = .ok (.iload 5, 2) := by decide +kernel
theorem dL_law_668 : decode cL_law 668 = .ok (.iconst 1, 1) := by decide +kernel
theorem dL_law_669 : decode cL_law 669 = .ok (.iadd, 1) := by decide +kernel
theorem dL_law_670 : decode cL_law 670 = .ok (.iaload, 1) := by decide +kernel
theorem dL_law_671 : decode cL_law 671 = .ok (.aload_n 0, 1) := by decide +kernel
theorem dL_law_672 : decode cL_law 672 = .ok (.iload 5, 2) := by decide +kernel
theorem dL_law_674 : decode cL_law 674 = .ok (.iconst 2, 1) := by decide +kernel
theorem dL_law_675 : decode cL_law 675 = .ok (.iadd, 1) := by decide +kernel
theorem dL_law_676 : decode cL_law 676 = .ok (.iaload, 1) := by decide +kernel
theorem dL_law_677 : decode cL_law 677 = .ok (.aload_n 3, 1) := by decide +kernel
theorem dL_law_678 : decode cL_law 678 = .ok (.invokestatic 127, 3) := by decide +kernel
theorem dL_law_681 : decode cL_law 681 = .ok (.istore 6, 2) := by decide +kernel
theorem dL_law_683 : decode cL_law 683 = .ok (.aload_n 2, 1) := by decide +kernel
theorem dL_law_684 : decode cL_law 684 = .ok (.aload_n 0, 1) := by decide +kernel
theorem dL_law_685 : decode cL_law 685 = .ok (.iload 5, 2) := by decide +kernel
theorem dL_law_687 : decode cL_law 687 = .ok (.iconst 1, 1) := by decide +kernel
theorem dL_law_688 : decode cL_law 688 = .ok (.iadd, 1) := by decide +kernel
theorem dL_law_689 : decode cL_law 689 = .ok (.iaload, 1) := by decide +kernel
theorem dL_law_690 : decode cL_law 690 = .ok (.aload_n 0, 1) := by decide +kernel
theorem dL_law_691 : decode cL_law 691 = .ok (.iload 5, 2) := by decide +kernel
theorem dL_law_693 : decode cL_law 693 = .ok (.iconst 2, 1) := by decide +kernel
theorem dL_law_694 : decode cL_law 694 = .ok (.iadd, 1) := by decide +kernel
theorem dL_law_695 : decode cL_law 695 = .ok (.iaload, 1) := by decide +kernel
theorem dL_law_696 : decode cL_law 696 = .ok (.invokevirtual 129, 3) := by decide +kernel
theorem dL_law_699 : decode cL_law 699 = .ok (.istore 7, 2) := by decide +kernel
theorem dL_law_701 : decode cL_law 701 = .ok (.aload_n 2, 1) := by decide +kernel
theorem dL_law_702 : decode cL_law 702 = .ok (.invokevirtual 98, 3) := by decide +kernel
theorem dL_law_705 : decode cL_law 705 = .ok (.iload 6, 2) := by decide +kernel
theorem dL_law_707 : decode cL_law 707 = .ok (.if_icmp .eq 5, 3) := by decide +kernel
theorem dL_law_710 : decode cL_law 710 = .ok (.iconst 0, 1) := by decide +kernel
theorem dL_law_711 : decode cL_law 711 = .ok (.ireturn, 1) := by decide +kernel
theorem dL_law_712 : decode cL_law 712 = .ok (.iload 6, 2) := by decide +kernel
theorem dL_law_714 : decode cL_law 714 = .ok (.ifCond .ne 15, 3) := by decide +kernel
theorem dL_law_717 : decode cL_law 717 = .ok (.aload_n 3, 1) := by decide +kernel
theorem dL_law_718 : decode cL_law 718 = .ok (.iconst 0, 1) := by decide +kernel
theorem dL_law_719 : decode cL_law 719 = .ok (.laload, 1) := by decide +kernel
theorem dL_law_720 : decode cL_law 720 = .ok (.iload 7, 2) := by decide +kernel
theorem dL_law_722 : decode cL_law 722 = .ok (.i2l, 1) := by decide +kernel
theorem dL_law_723 : decode cL_law 723 = .ok (.lcmp, 1) := by decide +kernel
theorem dL_law_724 : decode cL_law 724 = .ok (.ifCond .eq 5, 3) := by decide +kernel
theorem dL_law_727 : decode cL_law 727 = .ok (.iconst 0, 1) := by decide +kernel
theorem dL_law_728 : decode cL_law 728 = .ok (.ireturn, 1) := by decide +kernel
theorem dL_law_729 : decode cL_law 729 = .ok (.goto 883, 3) := by decide +kernel
theorem dL_law_732 : decode cL_law 732 = .ok (.aload_n 1, 1) := by decide +kernel
theorem dL_law_733 : decode cL_law 733 = .ok (.aload_n 0, 1) := by decide +kernel
theorem dL_law_734 : decode cL_law 734 = .ok (.iload 5, 2) := by decide +kernel
theorem dL_law_736 : decode cL_law 736 = .ok (.iconst 1, 1) := by decide +kernel
theorem dL_law_737 : decode cL_law 737 = .ok (.iadd, 1) := by decide +kernel
theorem dL_law_738 : decode cL_law 738 = .ok (.iaload, 1) := by decide +kernel
theorem dL_law_739 : decode cL_law 739 = .ok (.aload_n 0, 1) := by decide +kernel
theorem dL_law_740 : decode cL_law 740 = .ok (.iload 5, 2) := by decide +kernel
theorem dL_law_742 : decode cL_law 742 = .ok (.iconst 2, 1) := by decide +kernel
theorem dL_law_743 : decode cL_law 743 = .ok (.iadd, 1) := by decide +kernel
theorem dL_law_744 : decode cL_law 744 = .ok (.iaload, 1) := by decide +kernel
theorem dL_law_745 : decode cL_law 745 = .ok (.aload_n 0, 1) := by decide +kernel
theorem dL_law_746 : decode cL_law 746 = .ok (.iload 5, 2) := by decide +kernel
theorem dL_law_748 : decode cL_law 748 = .ok (.iconst 3, 1) := by decide +kernel
theorem dL_law_749 : decode cL_law 749 = .ok (.iadd, 1) := by decide +kernel
theorem dL_law_750 : decode cL_law 750 = .ok (.iaload, 1) := by decide +kernel
theorem dL_law_751 : decode cL_law 751 = .ok (.aload_n 3, 1) := by decide +kernel
theorem dL_law_752 : decode cL_law 752 = .ok (.invokestatic 130, 3) := by decide +kernel
theorem dL_law_755 : decode cL_law 755 = .ok (.istore 6, 2) := by decide +kernel
theorem dL_law_757 : decode cL_law 757 = .ok (.aload_n 2, 1) := by decide +kernel
theorem dL_law_758 : decode cL_law 758 = .ok (.aload_n 0, 1) := by decide +kernel
theorem dL_law_759 : decode cL_law 759 = .ok (.iload 5, 2) := by decide +kernel
theorem dL_law_761 : decode cL_law 761 = .ok (.iconst 1, 1) := by decide +kernel
theorem dL_law_762 : decode cL_law 762 = .ok (.iadd, 1) := by decide +kernel
theorem dL_law_763 : decode cL_law 763 = .ok (.iaload, 1) := by decide +kernel
theorem dL_law_764 : decode cL_law 764 = .ok (.aload_n 0, 1) := by decide +kernel
theorem dL_law_765 : decode cL_law 765 = .ok (.iload 5, 2) := by decide +kernel
theorem dL_law_767 : decode cL_law 767 = .ok (.iconst 2, 1) := by decide +kernel
theorem dL_law_768 : decode cL_law 768 = .ok (.iadd, 1) := by decide +kernel
theorem dL_law_769 : decode cL_law 769 = .ok (.iaload, 1) := by decide +kernel
theorem dL_law_770 : decode cL_law 770 = .ok (.aload_n 0, 1) := by decide +kernel
theorem dL_law_771 : decode cL_law 771 = .ok (.iload 5, 2) := by decide +kernel
theorem dL_law_773 : decode cL_law 773 = .ok (.iconst 3, 1) := by decide +kernel
theorem dL_law_774 : decode cL_law 774 = .ok (.iadd, 1) := by decide +kernel
theorem dL_law_775 : decode cL_law 775 = .ok (.iaload, 1) := by decide +kernel
theorem dL_law_776 : decode cL_law 776 = .ok (.invokevirtual 132, 3) := by decide +kernel
theorem dL_law_779 : decode cL_law 779 = .ok (.istore 7, 2) := by decide +kernel
theorem dL_law_781 : decode cL_law 781 = .ok (.aload_n 2, 1) := by decide +kernel
theorem dL_law_782 : decode cL_law 782 = .ok (.invokevirtual 98, 3) := by decide +kernel
theorem dL_law_785 : decode cL_law 785 = .ok (.iload 6, 2) := by decide +kernel
theorem dL_law_787 : decode cL_law 787 = .ok (.if_icmp .eq 5, 3) := by decide +kernel
theorem dL_law_790 : decode cL_law 790 = .ok (.iconst 0, 1) := by decide +kernel
theorem dL_law_791 : decode cL_law 791 = .ok (.ireturn, 1) := by decide +kernel
theorem dL_law_792 : decode cL_law 792 = .ok (.iload 6, 2) := by decide +kernel
theorem dL_law_794 : decode cL_law 794 = .ok (.ifCond .ne 15, 3) := by decide +kernel
theorem dL_law_797 : decode cL_law 797 = .ok (.aload_n 3, 1) := by decide +kernel
theorem dL_law_798 : decode cL_law 798 = .ok (.iconst 0, 1) := by decide +kernel
theorem dL_law_799 : decode cL_law 799 = .ok (.laload, 1) := by decide +kernel
theorem dL_law_800 : decode cL_law 800 = .ok (.iload 7, 2) := by decide +kernel
theorem dL_law_802 : decode cL_law 802 = .ok (.i2l, 1) := by decide +kernel
theorem dL_law_803 : decode cL_law 803 = .ok (.lcmp, 1) := by decide +kernel
theorem dL_law_804 : decode cL_law 804 = .ok (.ifCond .eq 5, 3) := by decide +kernel
theorem dL_law_807 : decode cL_law 807 = .ok (.iconst 0, 1) := by decide +kernel
theorem dL_law_808 : decode cL_law 808 = .ok (.ireturn, 1) := by decide +kernel
theorem dL_law_809 : decode cL_law 809 = .ok (.goto 803, 3) := by decide +kernel
theorem dL_law_812 : decode cL_law 812 = .ok (.aload_n 1, 1) := by decide +kernel
theorem dL_law_813 : decode cL_law 813 = .ok (.aload_n 0, 1) := by decide +kernel
theorem dL_law_814 : decode cL_law 814 = .ok (.iload 5, 2) := by decide +kernel
theorem dL_law_816 : decode cL_law 816 = .ok (.iconst 1, 1) := by decide +kernel
theorem dL_law_817 : decode cL_law 817 = .ok (.iadd, 1) := by decide +kernel
theorem dL_law_818 : decode cL_law 818 = .ok (.iaload, 1) := by decide +kernel
theorem dL_law_819 : decode cL_law 819 = .ok (.aload_n 0, 1) := by decide +kernel
theorem dL_law_820 : decode cL_law 820 = .ok (.iload 5, 2) := by decide +kernel
theorem dL_law_822 : decode cL_law 822 = .ok (.iconst 2, 1) := by decide +kernel
theorem dL_law_823 : decode cL_law 823 = .ok (.iadd, 1) := by decide +kernel
theorem dL_law_824 : decode cL_law 824 = .ok (.iaload, 1) := by decide +kernel
theorem dL_law_825 : decode cL_law 825 = .ok (.aload_n 3, 1) := by decide +kernel
theorem dL_law_826 : decode cL_law 826 = .ok (.invokestatic 133, 3) := by decide +kernel
theorem dL_law_829 : decode cL_law 829 = .ok (.istore 6, 2) := by decide +kernel
theorem dL_law_831 : decode cL_law 831 = .ok (.aload_n 2, 1) := by decide +kernel
theorem dL_law_832 : decode cL_law 832 = .ok (.aload_n 0, 1) := by decide +kernel
theorem dL_law_833 : decode cL_law 833 = .ok (.iload 5, 2) := by decide +kernel
theorem dL_law_835 : decode cL_law 835 = .ok (.iconst 1, 1) := by decide +kernel
theorem dL_law_836 : decode cL_law 836 = .ok (.iadd, 1) := by decide +kernel
theorem dL_law_837 : decode cL_law 837 = .ok (.iaload, 1) := by decide +kernel
theorem dL_law_838 : decode cL_law 838 = .ok (.aload_n 0, 1) := by decide +kernel
theorem dL_law_839 : decode cL_law 839 = .ok (.iload 5, 2) := by decide +kernel
theorem dL_law_841 : decode cL_law 841 = .ok (.iconst 2, 1) := by decide +kernel
theorem dL_law_842 : decode cL_law 842 = .ok (.iadd, 1) := by decide +kernel
theorem dL_law_843 : decode cL_law 843 = .ok (.iaload, 1) := by decide +kernel
theorem dL_law_844 : decode cL_law 844 = .ok (.invokevirtual 135, 3) := by decide +kernel
end
section
theorem dL_law_847 : decode cL_law 847 = .ok (.istore 7, 2) := by decide +kernel
theorem dL_law_849 : decode cL_law 849 = .ok (.aload_n 2, 1) := by decide +kernel
theorem dL_law_850 : decode cL_law 850 = .ok (.invokevirtual 98, 3) := by decide +kernel
theorem dL_law_853 : decode cL_law 853 = .ok (.iload 6, 2) := by decide +kernel
theorem dL_law_855 : decode cL_law 855 = .ok (.if_icmp .eq 5, 3) := by decide +kernel
theorem dL_law_858 : decode cL_law 858 = .ok (.iconst 0, 1) := by decide +kernel
theorem dL_law_859 : decode cL_law 859 = .ok (.ireturn, 1) := by decide +kernel
theorem dL_law_860 : decode cL_law 860 = .ok (.iload 6, 2) := by decide +kernel
theorem dL_law_862 : decode cL_law 862 = .ok (.ifCond .ne 15, 3) := by decide +kernel
theorem dL_law_865 : decode cL_law 865 = .ok (.aload_n 3, 1) := by decide +kernel
theorem dL_law_866 : decode cL_law 866 = .ok (.iconst 0, 1) := by decide +kernel
theorem dL_law_867 : decode cL_law 867 = .ok (.laload, 1) := by decide +kernel
theorem dL_law_868 : decode cL_law 868 = .ok (.iload 7, 2) := by decide +kernel
theorem dL_law_870 : decode cL_law 870 = .ok (.i2l, 1) := by decide +kernel
theorem dL_law_871 : decode cL_law 871 = .ok (.lcmp, 1) := by decide +kernel
theorem dL_law_872 : decode cL_law 872 = .ok (.ifCond .eq 5, 3) := by decide +kernel
theorem dL_law_875 : decode cL_law 875 = .ok (.iconst 0, 1) := by decide +kernel
theorem dL_law_876 : decode cL_law 876 = .ok (.ireturn, 1) := by decide +kernel
theorem dL_law_877 : decode cL_law 877 = .ok (.goto 735, 3) := by decide +kernel
theorem dL_law_880 : decode cL_law 880 = .ok (.aload_n 1, 1) := by decide +kernel
theorem dL_law_881 : decode cL_law 881 = .ok (.invokevirtual 136, 3) := by decide +kernel
theorem dL_law_884 : decode cL_law 884 = .ok (.aload_n 2, 1) := by decide +kernel
theorem dL_law_885 : decode cL_law 885 = .ok (.invokevirtual 139, 3) := by decide +kernel
theorem dL_law_888 : decode cL_law 888 = .ok (.if_icmp .eq 724, 3) := by decide +kernel
theorem dL_law_891 : decode cL_law 891 = .ok (.iconst 0, 1) := by decide +kernel
theorem dL_law_892 : decode cL_law 892 = .ok (.ireturn, 1) := by decide +kernel
theorem dL_law_893 : decode cL_law 893 = .ok (.aload_n 1, 1) := by decide +kernel
theorem dL_law_894 : decode cL_law 894 = .ok (.aload_n 0, 1) := by decide +kernel
theorem dL_law_895 : decode cL_law 895 = .ok (.iload 5, 2) := by decide +kernel
theorem dL_law_897 : decode cL_law 897 = .ok (.iconst 1, 1) := by decide +kernel
theorem dL_law_898 : decode cL_law 898 = .ok (.iadd, 1) := by decide +kernel
theorem dL_law_899 : decode cL_law 899 = .ok (.iaload, 1) := by decide +kernel
theorem dL_law_900 : decode cL_law 900 = .ok (.aload_n 3, 1) := by decide +kernel
theorem dL_law_901 : decode cL_law 901 = .ok (.invokestatic 140, 3) := by decide +kernel
theorem dL_law_904 : decode cL_law 904 = .ok (.istore 6, 2) := by decide +kernel
theorem dL_law_906 : decode cL_law 906 = .ok (.aload_n 2, 1) := by decide +kernel
theorem dL_law_907 : decode cL_law 907 = .ok (.aload_n 0, 1) := by decide +kernel
theorem dL_law_908 : decode cL_law 908 = .ok (.iload 5, 2) := by decide +kernel
theorem dL_law_910 : decode cL_law 910 = .ok (.iconst 1, 1) := by decide +kernel
theorem dL_law_911 : decode cL_law 911 = .ok (.iadd, 1) := by decide +kernel
theorem dL_law_912 : decode cL_law 912 = .ok (.iaload, 1) := by decide +kernel
theorem dL_law_913 : decode cL_law 913 = .ok (.invokevirtual 142, 3) := by decide +kernel
theorem dL_law_916 : decode cL_law 916 = .ok (.istore 7, 2) := by decide +kernel
theorem dL_law_918 : decode cL_law 918 = .ok (.aload_n 2, 1) := by decide +kernel
theorem dL_law_919 : decode cL_law 919 = .ok (.invokevirtual 98, 3) := by decide +kernel
theorem dL_law_922 : decode cL_law 922 = .ok (.iload 6, 2) := by decide +kernel
theorem dL_law_924 : decode cL_law 924 = .ok (.if_icmp .eq 5, 3) := by decide +kernel
theorem dL_law_927 : decode cL_law 927 = .ok (.iconst 0, 1) := by decide +kernel
theorem dL_law_928 : decode cL_law 928 = .ok (.ireturn, 1) := by decide +kernel
theorem dL_law_929 : decode cL_law 929 = .ok (.iload 6, 2) := by decide +kernel
theorem dL_law_931 : decode cL_law 931 = .ok (.ifCond .ne 15, 3) := by decide +kernel
theorem dL_law_934 : decode cL_law 934 = .ok (.aload_n 3, 1) := by decide +kernel
theorem dL_law_935 : decode cL_law 935 = .ok (.iconst 0, 1) := by decide +kernel
theorem dL_law_936 : decode cL_law 936 = .ok (.laload, 1) := by decide +kernel
theorem dL_law_937 : decode cL_law 937 = .ok (.iload 7, 2) := by decide +kernel
theorem dL_law_939 : decode cL_law 939 = .ok (.i2l, 1) := by decide +kernel
theorem dL_law_940 : decode cL_law 940 = .ok (.lcmp, 1) := by decide +kernel
theorem dL_law_941 : decode cL_law 941 = .ok (.ifCond .eq 5, 3) := by decide +kernel
theorem dL_law_944 : decode cL_law 944 = .ok (.iconst 0, 1) := by decide +kernel
theorem dL_law_945 : decode cL_law 945 = .ok (.ireturn, 1) := by decide +kernel
theorem dL_law_946 : decode cL_law 946 = .ok (.goto 666, 3) := by decide +kernel
theorem dL_law_949 : decode cL_law 949 = .ok (.aload_n 1, 1) := by decide +kernel
theorem dL_law_950 : decode cL_law 950 = .ok (.aload_n 0, 1) := by decide +kernel
theorem dL_law_951 : decode cL_law 951 = .ok (.iload 5, 2) := by decide +kernel
theorem dL_law_953 : decode cL_law 953 = .ok (.iconst 1, 1) := by decide +kernel
theorem dL_law_954 : decode cL_law 954 = .ok (.iadd, 1) := by decide +kernel
theorem dL_law_955 : decode cL_law 955 = .ok (.iaload, 1) := by decide +kernel
theorem dL_law_956 : decode cL_law 956 = .ok (.aload_n 0, 1) := by decide +kernel
theorem dL_law_957 : decode cL_law 957 = .ok (.iload 5, 2) := by decide +kernel
theorem dL_law_959 : decode cL_law 959 = .ok (.iconst 2, 1) := by decide +kernel
theorem dL_law_960 : decode cL_law 960 = .ok (.iadd, 1) := by decide +kernel
theorem dL_law_961 : decode cL_law 961 = .ok (.iaload, 1) := by decide +kernel
theorem dL_law_962 : decode cL_law 962 = .ok (.aload_n 0, 1) := by decide +kernel
theorem dL_law_963 : decode cL_law 963 = .ok (.iload 5, 2) := by decide +kernel
theorem dL_law_965 : decode cL_law 965 = .ok (.iconst 3, 1) := by decide +kernel
theorem dL_law_966 : decode cL_law 966 = .ok (.iadd, 1) := by decide +kernel
theorem dL_law_967 : decode cL_law 967 = .ok (.iaload, 1) := by decide +kernel
theorem dL_law_968 : decode cL_law 968 = .ok (.aload_n 3, 1) := by decide +kernel
theorem dL_law_969 : decode cL_law 969 = .ok (.invokestatic 143, 3) := by decide +kernel
theorem dL_law_972 : decode cL_law 972 = .ok (.istore 6, 2) := by decide +kernel
theorem dL_law_974 : decode cL_law 974 = .ok (.aload_n 2, 1) := by decide +kernel
theorem dL_law_975 : decode cL_law 975 = .ok (.aload_n 0, 1) := by decide +kernel
theorem dL_law_976 : decode cL_law 976 = .ok (.iload 5, 2) := by decide +kernel
theorem dL_law_978 : decode cL_law 978 = .ok (.iconst 1, 1) := by decide +kernel
theorem dL_law_979 : decode cL_law 979 = .ok (.iadd, 1) := by decide +kernel
theorem dL_law_980 : decode cL_law 980 = .ok (.iaload, 1) := by decide +kernel
theorem dL_law_981 : decode cL_law 981 = .ok (.aload_n 0, 1) := by decide +kernel
theorem dL_law_982 : decode cL_law 982 = .ok (.iload 5, 2) := by decide +kernel
theorem dL_law_984 : decode cL_law 984 = .ok (.iconst 2, 1) := by decide +kernel
theorem dL_law_985 : decode cL_law 985 = .ok (.iadd, 1) := by decide +kernel
theorem dL_law_986 : decode cL_law 986 = .ok (.iaload, 1) := by decide +kernel
theorem dL_law_987 : decode cL_law 987 = .ok (.aload_n 0, 1) := by decide +kernel
theorem dL_law_988 : decode cL_law 988 = .ok (.iload 5, 2) := by decide +kernel
theorem dL_law_990 : decode cL_law 990 = .ok (.iconst 3, 1) := by decide +kernel
theorem dL_law_991 : decode cL_law 991 = .ok (.iadd, 1) := by decide +kernel
theorem dL_law_992 : decode cL_law 992 = .ok (.iaload, 1) := by decide +kernel
theorem dL_law_993 : decode cL_law 993 = .ok (.invokevirtual 145, 3) := by decide +kernel
theorem dL_law_996 : decode cL_law 996 = .ok (.istore 7, 2) := by decide +kernel
theorem dL_law_998 : decode cL_law 998 = .ok (.aload_n 2, 1) := by decide +kernel
theorem dL_law_999 : decode cL_law 999 = .ok (.invokevirtual 98, 3) := by decide +kernel
theorem dL_law_1002 : decode cL_law 1002 = .ok (.iload 6, 2) := by decide +kernel
theorem dL_law_1004 : decode cL_law 1004 = .ok (.if_icmp .eq 5, 3) := by decide +kernel
theorem dL_law_1007 : decode cL_law 1007 = .ok (.iconst 0, 1) := by decide +kernel
theorem dL_law_1008 : decode cL_law 1008 = .ok (.ireturn, 1) := by decide +kernel
theorem dL_law_1009 : decode cL_law 1009 = .ok (.iload 6, 2) := by decide +kernel
theorem dL_law_1011 : decode cL_law 1011 = .ok (.ifCond .ne 15, 3) := by decide +kernel
theorem dL_law_1014 : decode cL_law 1014 = .ok (.aload_n 3, 1) := by decide +kernel
theorem dL_law_1015 : decode cL_law 1015 = .ok (.iconst 0, 1) := by decide +kernel
theorem dL_law_1016 : decode cL_law 1016 = .ok (.laload, 1) := by decide +kernel
theorem dL_law_1017 : decode cL_law 1017 = .ok (.iload 7, 2) := by decide +kernel
theorem dL_law_1019 : decode cL_law 1019 = .ok (.i2l, 1) := by decide +kernel
theorem dL_law_1020 : decode cL_law 1020 = .ok (.lcmp, 1) := by decide +kernel
theorem dL_law_1021 : decode cL_law 1021 = .ok (.ifCond .eq 5, 3) := by decide +kernel
theorem dL_law_1024 : decode cL_law 1024 = .ok (.iconst 0, 1) := by decide +kernel
theorem dL_law_1025 : decode cL_law 1025 = .ok (.ireturn, 1) := by decide +kernel
theorem dL_law_1026 : decode cL_law 1026 = .ok (.goto 586, 3) := by decide +kernel
theorem dL_law_1029 : decode cL_law 1029 = .ok (.aload_n 1, 1) := by decide +kernel
theorem dL_law_1030 : decode cL_law 1030 = .ok (.aload_n 0, 1) := by decide +kernel
theorem dL_law_1031 : decode cL_law 1031 = .ok (.iload 5, 2) := by decide +kernel
theorem dL_law_1033 : decode cL_law 1033 = .ok (.iconst 1, 1) := by decide +kernel
theorem dL_law_1034 : decode cL_law 1034 = .ok (.iadd, 1) := by decide +kernel
theorem dL_law_1035 : decode cL_law 1035 = .ok (.iaload, 1) := by decide +kernel
theorem dL_law_1036 : decode cL_law 1036 = .ok (.aload_n 3, 1) := by decide +kernel
theorem dL_law_1037 : decode cL_law 1037 = .ok (.invokestatic 146, 3) := by decide +kernel
theorem dL_law_1040 : decode cL_law 1040 = .ok (.istore 6, 2) := by decide +kernel
theorem dL_law_1042 : decode cL_law 1042 = .ok (.aload_n 2, 1) := by decide +kernel
theorem dL_law_1043 : decode cL_law 1043 = .ok (.aload_n 0, 1) := by decide +kernel
theorem dL_law_1044 : decode cL_law 1044 = .ok (.iload 5, 2) := by decide +kernel
theorem dL_law_1046 : decode cL_law 1046 = .ok (.iconst 1, 1) := by decide +kernel
theorem dL_law_1047 : decode cL_law 1047 = .ok (.iadd, 1) := by decide +kernel
theorem dL_law_1048 : decode cL_law 1048 = .ok (.iaload, 1) := by decide +kernel
theorem dL_law_1049 : decode cL_law 1049 = .ok (.invokevirtual 148, 3) := by decide +kernel
theorem dL_law_1052 : decode cL_law 1052 = .ok (.istore 7, 2) := by decide +kernel
theorem dL_law_1054 : decode cL_law 1054 = .ok (.aload_n 2, 1) := by decide +kernel
theorem dL_law_1055 : decode cL_law 1055 = .ok (.invokevirtual 98, 3) := by decide +kernel
theorem dL_law_1058 : decode cL_law 1058 = .ok (.iload 6, 2) := by decide +kernel
theorem dL_law_1060 : decode cL_law 1060 = .ok (.if_icmp .eq 5, 3) := by decide +kernel
theorem dL_law_1063 : decode cL_law 1063 = .ok (.iconst 0, 1) := by decide +kernel
theorem dL_law_1064 : decode cL_law 1064 = .ok (.ireturn, 1) := by decide +kernel
theorem dL_law_1065 : decode cL_law 1065 = .ok (.iload 6, 2) := by decide +kernel
theorem dL_law_1067 : decode cL_law 1067 = .ok (.ifCond .ne 15, 3) := by decide +kernel
theorem dL_law_1070 : decode cL_law 1070 = .ok (.aload_n 3, 1) := by decide +kernel
theorem dL_law_1071 : decode cL_law 1071 = .ok (.iconst 0, 1) := by decide +kernel
theorem dL_law_1072 : decode cL_law 1072 = .ok (.laload, 1) := by decide +kernel
theorem dL_law_1073 : decode cL_law 1073 = .ok (.iload 7, 2) := by decide +kernel
theorem dL_law_1075 : decode cL_law 1075 = .ok (.i2l, 1) := by decide +kernel
theorem dL_law_1076 : decode cL_law 1076 = .ok (.lcmp, 1) := by decide +kernel
theorem dL_law_1077 : decode cL_law 1077 = .ok (.ifCond .eq 5, 3) := by decide +kernel
theorem dL_law_1080 : decode cL_law 1080 = .ok (.iconst 0, 1) := by decide +kernel
theorem dL_law_1081 : decode cL_law 1081 = .ok (.ireturn, 1) := by decide +kernel
theorem dL_law_1082 : decode cL_law 1082 = .ok (.goto 530, 3) := by decide +kernel
theorem dL_law_1085 : decode cL_law 1085 = .ok (.aload_n 1, 1) := by decide +kernel
theorem dL_law_1086 : decode cL_law 1086 = .ok (.aload_n 0, 1) := by decide +kernel
theorem dL_law_1087 : decode cL_law 1087 = .ok (.iload 5, 2) := by decide +kernel
theorem dL_law_1089 : decode cL_law 1089 = .ok (.iconst 1, 1) := by decide +kernel
theorem dL_law_1090 : decode cL_law 1090 = .ok (.iadd, 1) := by decide +kernel
theorem dL_law_1091 : decode cL_law 1091 = .ok (.iaload, 1) := by decide +kernel
theorem dL_law_1092 : decode cL_law 1092 = .ok (.aload 4, 2) := by decide +kernel
theorem dL_law_1094 : decode cL_law 1094 = .ok (.invokestatic 149, 3) := by decide +kernel
theorem dL_law_1097 : decode cL_law 1097 = .ok (.istore 6, 2) := by decide +kernel
theorem dL_law_1099 : decode cL_law 1099 = .ok (.aload_n 2, 1) := by decide +kernel
theorem dL_law_1100 : decode cL_law 1100 = .ok (.aload_n 0, 1) := by decide +kernel
theorem dL_law_1101 : decode cL_law 1101 = .ok (.iload 5, 2) := by decide +kernel
theorem dL_law_1103 : decode cL_law 1103 = .ok (.iconst 1, 1) := by decide +kernel
theorem dL_law_1104 : decode cL_law 1104 = .ok (.iadd, 1) := by decide +kernel
theorem dL_law_1105 : decode cL_law 1105 = .ok (.iaload, 1) := by decide +kernel
theorem dL_law_1106 : decode cL_law 1106 = .ok (.invokevirtual 152, 3) := by decide +kernel
theorem dL_law_1109 : decode cL_law 1109 = .ok (.dstore 7, 2) := by decide +kernel
theorem dL_law_1111 : decode cL_law 1111 = .ok (.aload_n 2, 1) := by decide +kernel
theorem dL_law_1112 : decode cL_law 1112 = .ok (.invokevirtual 98, 3) := by decide +kernel
theorem dL_law_1115 : decode cL_law 1115 = .ok (.iload 6, 2) := by decide +kernel
theorem dL_law_1117 : decode cL_law 1117 = .ok (.if_icmp .eq 5, 3) := by decide +kernel
theorem dL_law_1120 : decode cL_law 1120 = .ok (.iconst 0, 1) := by decide +kernel
theorem dL_law_1121 : decode cL_law 1121 = .ok (.ireturn, 1) := by decide +kernel
theorem dL_law_1122 : decode cL_law 1122 = .ok (.iload 6, 2) := by decide +kernel
theorem dL_law_1124 : decode cL_law 1124 = .ok (.ifCond .ne 35, 3) := by decide +kernel
theorem dL_law_1127 : decode cL_law 1127 = .ok (.aload 4, 2) := by decide +kernel
theorem dL_law_1129 : decode cL_law 1129 = .ok (.iconst 0, 1) := by decide +kernel
theorem dL_law_1130 : decode cL_law 1130 = .ok (.daload, 1) := by decide +kernel
theorem dL_law_1131 : decode cL_law 1131 = .ok (.dload 7, 2) := by decide +kernel
theorem dL_law_1133 : decode cL_law 1133 = .ok (.dcmp .l, 1) := by decide +kernel
theorem dL_law_1134 : decode cL_law 1134 = .ok (.ifCond .eq 25, 3) := by decide +kernel
theorem dL_law_1137 : decode cL_law 1137 = .ok (.aload 4, 2) := by decide +kernel
theorem dL_law_1139 : decode cL_law 1139 = .ok (.iconst 0, 1) := by decide +kernel
theorem dL_law_1140 : decode cL_law 1140 = .ok (.daload, 1) := by decide +kernel
theorem dL_law_1141 : decode cL_law 1141 = .ok (.aload 4, 2) := by decide +kernel
theorem dL_law_1143 : decode cL_law 1143 = .ok (.iconst 0, 1) := by decide +kernel
theorem dL_law_1144 : decode cL_law 1144 = .ok (.daload, 1) := by decide +kernel
theorem dL_law_1145 : decode cL_law 1145 = .ok (.dcmp .l, 1) := by decide +kernel
theorem dL_law_1146 : decode cL_law 1146 = .ok (.ifCond .eq 11, 3) := by decide +kernel
theorem dL_law_1149 : decode cL_law 1149 = .ok (.dload 7, 2) := by decide +kernel
theorem dL_law_1151 : decode cL_law 1151 = .ok (.dload 7, 2) := by decide +kernel
theorem dL_law_1153 : decode cL_law 1153 = .ok (.dcmp .l, 1) := by decide +kernel
theorem dL_law_1154 : decode cL_law 1154 = .ok (.ifCond .ne 5, 3) := by decide +kernel
theorem dL_law_1157 : decode cL_law 1157 = .ok (.iconst 0, 1) := by decide +kernel
theorem dL_law_1158 : decode cL_law 1158 = .ok (.ireturn, 1) := by decide +kernel
theorem dL_law_1159 : decode cL_law 1159 = .ok (.goto 453, 3) := by decide +kernel
theorem dL_law_1162 : decode cL_law 1162 = .ok (.aload_n 1, 1) := by decide +kernel
theorem dL_law_1163 : decode cL_law 1163 = .ok (.aload_n 0, 1) := by decide +kernel
theorem dL_law_1164 : decode cL_law 1164 = .ok (.iload 5, 2) := by decide +kernel
theorem dL_law_1166 : decode cL_law 1166 = .ok (.iconst 1, 1) := by decide +kernel
theorem dL_law_1167 : decode cL_law 1167 = .ok (.iadd, 1) := by decide +kernel
theorem dL_law_1168 : decode cL_law 1168 = .ok (.iaload, 1) := by decide +kernel
theorem dL_law_1169 : decode cL_law 1169 = .ok (.aload_n 0, 1) := by decide +kernel
theorem dL_law_1170 : decode cL_law 1170 = .ok (.iload 5, 2) := by decide +kernel
theorem dL_law_1172 : decode cL_law 1172 = .ok (.iconst 2, 1) := by decide +kernel
theorem dL_law_1173 : decode cL_law 1173 = .ok (.iadd, 1) := by decide +kernel
theorem dL_law_1174 : decode cL_law 1174 = .ok (.iaload, 1) := by decide +kernel
theorem dL_law_1175 : decode cL_law 1175 = .ok (.aload_n 3, 1) := by decide +kernel
theorem dL_law_1176 : decode cL_law 1176 = .ok (.invokestatic 153, 3) := by decide +kernel
theorem dL_law_1179 : decode cL_law 1179 = .ok (.istore 6, 2) := by decide +kernel
theorem dL_law_1181 : decode cL_law 1181 = .ok (.aload_n 2, 1) := by decide +kernel
theorem dL_law_1182 : decode cL_law 1182 = .ok (.aload_n 0, 1) := by decide +kernel
theorem dL_law_1183 : decode cL_law 1183 = .ok (.iload 5, 2) := by decide +kernel
theorem dL_law_1185 : decode cL_law 1185 = .ok (.iconst 1, 1) := by decide +kernel
theorem dL_law_1186 : decode cL_law 1186 = .ok (.iadd, 1) := by decide +kernel
theorem dL_law_1187 : decode cL_law 1187 = .ok (.iaload, 1) := by decide +kernel
theorem dL_law_1188 : decode cL_law 1188 = .ok (.aload_n 0, 1) := by decide +kernel
theorem dL_law_1189 : decode cL_law 1189 = .ok (.iload 5, 2) := by decide +kernel
theorem dL_law_1191 : decode cL_law 1191 = .ok (.iconst 2, 1) := by decide +kernel
theorem dL_law_1192 : decode cL_law 1192 = .ok (.iadd, 1) := by decide +kernel
theorem dL_law_1193 : decode cL_law 1193 = .ok (.iaload, 1) := by decide +kernel
theorem dL_law_1194 : decode cL_law 1194 = .ok (.invokevirtual 155, 3) := by decide +kernel
theorem dL_law_1197 : decode cL_law 1197 = .ok (.istore 7, 2) := by decide +kernel
theorem dL_law_1199 : decode cL_law 1199 = .ok (.aload_n 2, 1) := by decide +kernel
theorem dL_law_1200 : decode cL_law 1200 = .ok (.invokevirtual 98, 3) := by decide +kernel
theorem dL_law_1203 : decode cL_law 1203 = .ok (.iload 6, 2) := by decide +kernel
theorem dL_law_1205 : decode cL_law 1205 = .ok (.if_icmp .eq 5, 3) := by decide +kernel
theorem dL_law_1208 : decode cL_law 1208 = .ok (.iconst 0, 1) := by decide +kernel
theorem dL_law_1209 : decode cL_law 1209 = .ok (.ireturn, 1) := by decide +kernel
theorem dL_law_1210 : decode cL_law 1210 = .ok (.iload 6, 2) := by decide +kernel
theorem dL_law_1212 : decode cL_law 1212 = .ok (.ifCond .ne 15, 3) := by decide +kernel
theorem dL_law_1215 : decode cL_law 1215 = .ok (.aload_n 3, 1) := by decide +kernel
theorem dL_law_1216 : decode cL_law 1216 = .ok (.iconst 0, 1) := by decide +kernel
theorem dL_law_1217 : decode cL_law 1217 = .ok (.laload, 1) := by decide +kernel
theorem dL_law_1218 : decode cL_law 1218 = .ok (.iload 7, 2) := by decide +kernel
theorem dL_law_1220 : decode cL_law 1220 = .ok (.i2l, 1) := by decide +kernel
theorem dL_law_1221 : decode cL_law 1221 = .ok (.lcmp, 1) := by decide +kernel
theorem dL_law_1222 : decode cL_law 1222 = .ok (.ifCond .eq 5, 3) := by decide +kernel
theorem dL_law_1225 : decode cL_law 1225 = .ok (.iconst 0, 1) := by decide +kernel
theorem dL_law_1226 : decode cL_law 1226 = .ok (.ireturn, 1) := by decide +kernel
theorem dL_law_1227 : decode cL_law 1227 = .ok (.goto 385, 3) := by decide +kernel
theorem dL_law_1230 : decode cL_law 1230 = .ok (.aload_n 1, 1) := by decide +kernel
theorem dL_law_1231 : decode cL_law 1231 = .ok (.aload_n 0, 1) := by decide +kernel
theorem dL_law_1232 : decode cL_law 1232 = .ok (.iload 5, 2) := by decide +kernel
theorem dL_law_1234 : decode cL_law 1234 = .ok (.iconst 1, 1) := by decide +kernel
theorem dL_law_1235 : decode cL_law 1235 = .ok (.iadd, 1) := by decide +kernel
theorem dL_law_1236 : decode cL_law 1236 = .ok (.iaload, 1) := by decide +kernel
theorem dL_law_1237 : decode cL_law 1237 = .ok (.aload_n 0, 1) := by decide +kernel
theorem dL_law_1238 : decode cL_law 1238 = .ok (.iload 5, 2) := by decide +kernel
theorem dL_law_1240 : decode cL_law 1240 = .ok (.iconst 2, 1) := by decide +kernel
theorem dL_law_1241 : decode cL_law 1241 = .ok (.iadd, 1) := by decide +kernel
theorem dL_law_1242 : decode cL_law 1242 = .ok (.iaload, 1) := by decide +kernel
theorem dL_law_1243 : decode cL_law 1243 = .ok (.aload_n 3, 1) := by decide +kernel
theorem dL_law_1244 : decode cL_law 1244 = .ok (.invokestatic 156, 3) := by decide +kernel
theorem dL_law_1247 : decode cL_law 1247 = .ok (.istore 6, 2) := by decide +kernel
theorem dL_law_1249 : decode cL_law 1249 = .ok (.aload_n 2, 1) := by decide +kernel
theorem dL_law_1250 : decode cL_law 1250 = .ok (.aload_n 0, 1) := by decide +kernel
theorem dL_law_1251 : decode cL_law 1251 = .ok (.iload 5, 2) := by decide +kernel
theorem dL_law_1253 : decode cL_law 1253 = .ok (.iconst 1, 1) := by decide +kernel
theorem dL_law_1254 : decode cL_law 1254 = .ok (.iadd, 1) := by decide +kernel
theorem dL_law_1255 : decode cL_law 1255 = .ok (.iaload, 1) := by decide +kernel
theorem dL_law_1256 : decode cL_law 1256 = .ok (.aload_n 0, 1) := by decide +kernel
theorem dL_law_1257 : decode cL_law 1257 = .ok (.iload 5, 2) := by decide +kernel
theorem dL_law_1259 : decode cL_law 1259 = .ok (.iconst 2, 1) := by decide +kernel
theorem dL_law_1260 : decode cL_law 1260 = .ok (.iadd, 1) := by decide +kernel
theorem dL_law_1261 : decode cL_law 1261 = .ok (.iaload, 1) := by decide +kernel
theorem dL_law_1262 : decode cL_law 1262 = .ok (.invokevirtual 158, 3) := by decide +kernel
theorem dL_law_1265 : decode cL_law 1265 = .ok (.istore 7, 2) := by decide +kernel
theorem dL_law_1267 : decode cL_law 1267 = .ok (.aload_n 2, 1) := by decide +kernel
theorem dL_law_1268 : decode cL_law 1268 = .ok (.invokevirtual 98, 3) := by decide +kernel
theorem dL_law_1271 : decode cL_law 1271 = .ok (.iload 6, 2) := by decide +kernel
theorem dL_law_1273 : decode cL_law 1273 = .ok (.if_icmp .eq 5, 3) := by decide +kernel
theorem dL_law_1276 : decode cL_law 1276 = .ok (.iconst 0, 1) := by decide +kernel
theorem dL_law_1277 : decode cL_law 1277 = .ok (.ireturn, 1) := by decide +kernel
theorem dL_law_1278 : decode cL_law 1278 = .ok (.iload 6, 2) := by decide +kernel
theorem dL_law_1280 : decode cL_law 1280 = .ok (.ifCond .ne 15, 3) := by decide +kernel
theorem dL_law_1283 : decode cL_law 1283 = .ok (.aload_n 3, 1) := by decide +kernel
theorem dL_law_1284 : decode cL_law 1284 = .ok (.iconst 0, 1) := by decide +kernel
theorem dL_law_1285 : decode cL_law 1285 = .ok (.laload, 1) := by decide +kernel
theorem dL_law_1286 : decode cL_law 1286 = .ok (.iload 7, 2) := by decide +kernel
theorem dL_law_1288 : decode cL_law 1288 = .ok (.i2l, 1) := by decide +kernel
theorem dL_law_1289 : decode cL_law 1289 = .ok (.lcmp, 1) := by decide +kernel
theorem dL_law_1290 : decode cL_law 1290 = .ok (.ifCond .eq 5, 3) := by decide +kernel
theorem dL_law_1293 : decode cL_law 1293 = .ok (.iconst 0, 1) := by decide +kernel
theorem dL_law_1294 : decode cL_law 1294 = .ok (.ireturn, 1) := by decide +kernel
theorem dL_law_1295 : decode cL_law 1295 = .ok (.goto 317, 3) := by decide +kernel
theorem dL_law_1298 : decode cL_law 1298 = .ok (.aload_n 1, 1) := by decide +kernel
theorem dL_law_1299 : decode cL_law 1299 = .ok (.aload_n 0, 1) := by decide +kernel
theorem dL_law_1300 : decode cL_law 1300 = .ok (.iload 5, 2) := by decide +kernel
theorem dL_law_1302 : decode cL_law 1302 = .ok (.iconst 1, 1) := by decide +kernel
theorem dL_law_1303 : decode cL_law 1303 = .ok (.iadd, 1) := by decide +kernel
theorem dL_law_1304 : decode cL_law 1304 = .ok (.iaload, 1) := by decide +kernel
theorem dL_law_1305 : decode cL_law 1305 = .ok (.aload_n 0, 1) := by decide +kernel
theorem dL_law_1306 : decode cL_law 1306 = .ok (.iload 5, 2) := by decide +kernel
theorem dL_law_1308 : decode cL_law 1308 = .ok (.iconst 2, 1) := by decide +kernel
theorem dL_law_1309 : decode cL_law 1309 = .ok (.iadd, 1) := by decide +kernel
theorem dL_law_1310 : decode cL_law 1310 = .ok (.iaload, 1) := by decide +kernel
theorem dL_law_1311 : decode cL_law 1311 = .ok (.aload_n 3, 1) := by decide +kernel
theorem dL_law_1312 : decode cL_law 1312 = .ok (.invokestatic 159, 3) := by decide +kernel
theorem dL_law_1315 : decode cL_law 1315 = .ok (.istore 6, 2) := by decide +kernel
theorem dL_law_1317 : decode cL_law 1317 = .ok (.aload_n 2, 1) := by decide +kernel
theorem dL_law_1318 : decode cL_law 1318 = .ok (.aload_n 0, 1) := by decide +kernel
theorem dL_law_1319 : decode cL_law 1319 = .ok (.iload 5, 2) := by decide +kernel
theorem dL_law_1321 : decode cL_law 1321 = .ok (.iconst 1, 1) := by decide +kernel
theorem dL_law_1322 : decode cL_law 1322 = .ok (.iadd, 1) := by decide +kernel
theorem dL_law_1323 : decode cL_law 1323 = .ok (.iaload, 1) := by decide +kernel
theorem dL_law_1324 : decode cL_law 1324 = .ok (.aload_n 0, 1) := by decide +kernel
theorem dL_law_1325 : decode cL_law 1325 = .ok (.iload 5, 2) := by decide +kernel
theorem dL_law_1327 : decode cL_law 1327 = .ok (.iconst 2, 1) := by decide +kernel
theorem dL_law_1328 : decode cL_law 1328 = .ok (.iadd, 1) := by decide +kernel
theorem dL_law_1329 : decode cL_law 1329 = .ok (.iaload, 1) := by decide +kernel
theorem dL_law_1330 : decode cL_law 1330 = .ok (.invokevirtual 161, 3) := by decide +kernel
theorem dL_law_1333 : decode cL_law 1333 = .ok (.istore 7, 2) := by decide +kernel
theorem dL_law_1335 : decode cL_law 1335 = .ok (.aload_n 2, 1) := by decide +kernel
theorem dL_law_1336 : decode cL_law 1336 = .ok (.invokevirtual 98, 3) := by decide +kernel
theorem dL_law_1339 : decode cL_law 1339 = .ok (.iload 6, 2) := by decide +kernel
theorem dL_law_1341 : decode cL_law 1341 = .ok (.if_icmp .eq 5, 3) := by decide +kernel
theorem dL_law_1344 : decode cL_law 1344 = .ok (.iconst 0, 1) := by decide +kernel
theorem dL_law_1345 : decode cL_law 1345 = .ok (.ireturn, 1) := by decide +kernel
theorem dL_law_1346 : decode cL_law 1346 = .ok (.iload 6, 2) := by decide +kernel
theorem dL_law_1348 : decode cL_law 1348 = .ok (.ifCond .ne 15, 3) := by decide +kernel
theorem dL_law_1351 : decode cL_law 1351 = .ok (.aload_n 3, 1) := by decide +kernel
theorem dL_law_1352 : decode cL_law 1352 = .ok (.iconst 0, 1) := by decide +kernel
theorem dL_law_1353 : decode cL_law 1353 = .ok (.laload, 1) := by decide +kernel
theorem dL_law_1354 : decode cL_law 1354 = .ok (.iload 7, 2) := by decide +kernel
theorem dL_law_1356 : decode cL_law 1356 = .ok (.i2l, 1) := by decide +kernel
theorem dL_law_1357 : decode cL_law 1357 = .ok (.lcmp, 1) := by decide +kernel
theorem dL_law_1358 : decode cL_law 1358 = .ok (.ifCond .eq 5, 3) := by decide +kernel
theorem dL_law_1361 : decode cL_law 1361 = .ok (.iconst 0, 1) := by decide +kernel
theorem dL_law_1362 : decode cL_law 1362 = .ok (.ireturn, 1) := by decide +kernel
theorem dL_law_1363 : decode cL_law 1363 = .ok (.goto 249, 3) := by decide +kernel
theorem dL_law_1366 : decode cL_law 1366 = .ok (.aload_n 1, 1) := by decide +kernel
theorem dL_law_1367 : decode cL_law 1367 = .ok (.aload_n 0, 1) := by decide +kernel
theorem dL_law_1368 : decode cL_law 1368 = .ok (.iload 5, 2) := by decide +kernel
theorem dL_law_1370 : decode cL_law 1370 = .ok (.iconst 1, 1) := by decide +kernel
theorem dL_law_1371 : decode cL_law 1371 = .ok (.iadd, 1) := by decide +kernel
theorem dL_law_1372 : decode cL_law 1372 = .ok (.iaload, 1) := by decide +kernel
theorem dL_law_1373 : decode cL_law 1373 = .ok (.aload_n 3, 1) := by decide +kernel
theorem dL_law_1374 : decode cL_law 1374 = .ok (.invokestatic 162, 3) := by decide +kernel
theorem dL_law_1377 : decode cL_law 1377 = .ok (.istore 6, 2) := by decide +kernel
theorem dL_law_1379 : decode cL_law 1379 = .ok (.aload_n 2, 1) := by decide +kernel
theorem dL_law_1380 : decode cL_law 1380 = .ok (.aload_n 0, 1) := by decide +kernel
theorem dL_law_1381 : decode cL_law 1381 = .ok (.iload 5, 2) := by decide +kernel
theorem dL_law_1383 : decode cL_law 1383 = .ok (.iconst 1, 1) := by decide +kernel
theorem dL_law_1384 : decode cL_law 1384 = .ok (.iadd, 1) := by decide +kernel
theorem dL_law_1385 : decode cL_law 1385 = .ok (.iaload, 1) := by decide +kernel
theorem dL_law_1386 : decode cL_law 1386 = .ok (.invokevirtual 164, 3) := by decide +kernel
theorem dL_law_1389 : decode cL_law 1389 = .ok (.istore 7, 2) := by decide +kernel
theorem dL_law_1391 : decode cL_law 1391 = .ok (.aload_n 2, 1) := by decide +kernel
theorem dL_law_1392 : decode cL_law 1392 = .ok (.invokevirtual 98, 3) := by decide +kernel
theorem dL_law_1395 : decode cL_law 1395 = .ok (.iload 6, 2) := by decide +kernel
theorem dL_law_1397 : decode cL_law 1397 = .ok (.if_icmp .eq 5, 3) := by decide +kernel
theorem dL_law_1400 : decode cL_law 1400 = .ok (.iconst 0, 1) := by decide +kernel
theorem dL_law_1401 : decode cL_law 1401 = .ok (.ireturn, 1) := by decide +kernel
theorem dL_law_1402 : decode cL_law 1402 = .ok (.iload 6, 2) := by decide +kernel
theorem dL_law_1404 : decode cL_law 1404 = .ok (.ifCond .ne 15, 3) := by decide +kernel
theorem dL_law_1407 : decode cL_law 1407 = .ok (.aload_n 3, 1) := by decide +kernel
theorem dL_law_1408 : decode cL_law 1408 = .ok (.iconst 0, 1) := by decide +kernel
theorem dL_law_1409 : decode cL_law 1409 = .ok (.laload, 1) := by decide +kernel
theorem dL_law_1410 : decode cL_law 1410 = .ok (.iload 7, 2) := by decide +kernel
theorem dL_law_1412 : decode cL_law 1412 = .ok (.i2l, 1) := by decide +kernel
theorem dL_law_1413 : decode cL_law 1413 = .ok (.lcmp, 1) := by decide +kernel
theorem dL_law_1414 : decode cL_law 1414 = .ok (.ifCond .eq 5, 3) := by decide +kernel
theorem dL_law_1417 : decode cL_law 1417 = .ok (.iconst 0, 1) := by decide +kernel
theorem dL_law_1418 : decode cL_law 1418 = .ok (.ireturn, 1) := by decide +kernel
theorem dL_law_1419 : decode cL_law 1419 = .ok (.goto 193, 3) := by decide +kernel
theorem dL_law_1422 : decode cL_law 1422 = .ok (.aload_n 1, 1) := by decide +kernel
theorem dL_law_1423 : decode cL_law 1423 = .ok (.aload_n 0, 1) := by decide +kernel
theorem dL_law_1424 : decode cL_law 1424 = .ok (.iload 5, 2) := by decide +kernel
theorem dL_law_1426 : decode cL_law 1426 = .ok (.iconst 1, 1) := by decide +kernel
theorem dL_law_1427 : decode cL_law 1427 = .ok (.iadd, 1) := by decide +kernel
theorem dL_law_1428 : decode cL_law 1428 = .ok (.iaload, 1) := by decide +kernel
theorem dL_law_1429 : decode cL_law 1429 = .ok (.aload_n 3, 1) := by decide +kernel
theorem dL_law_1430 : decode cL_law 1430 = .ok (.invokestatic 165, 3) := by decide +kernel
theorem dL_law_1433 : decode cL_law 1433 = .ok (.istore 6, 2) := by decide +kernel
theorem dL_law_1435 : decode cL_law 1435 = .ok (.aload_n 2, 1) := by decide +kernel
theorem dL_law_1436 : decode cL_law 1436 = .ok (.aload_n 0, 1) := by decide +kernel
theorem dL_law_1437 : decode cL_law 1437 = .ok (.iload 5, 2) := by decide +kernel
theorem dL_law_1439 : decode cL_law 1439 = .ok (.iconst 1, 1) := by decide +kernel
theorem dL_law_1440 : decode cL_law 1440 = .ok (.iadd, 1) := by decide +kernel
theorem dL_law_1441 : decode cL_law 1441 = .ok (.iaload, 1) := by decide +kernel
theorem dL_law_1442 : decode cL_law 1442 = .ok (.invokevirtual 167, 3) := by decide +kernel
theorem dL_law_1445 : decode cL_law 1445 = .ok (.istore 7, 2) := by decide +kernel
theorem dL_law_1447 : decode cL_law 1447 = .ok (.aload_n 2, 1) := by decide +kernel
theorem dL_law_1448 : decode cL_law 1448 = .ok (.invokevirtual 98, 3) := by decide +kernel
theorem dL_law_1451 : decode cL_law 1451 = .ok (.iload 6, 2) := by decide +kernel
theorem dL_law_1453 : decode cL_law 1453 = .ok (.if_icmp .eq 5, 3) := by decide +kernel
theorem dL_law_1456 : decode cL_law 1456 = .ok (.iconst 0, 1) := by decide +kernel
theorem dL_law_1457 : decode cL_law 1457 = .ok (.ireturn, 1) := by decide +kernel
theorem dL_law_1458 : decode cL_law 1458 = .ok (.iload 6, 2) := by decide +kernel
theorem dL_law_1460 : decode cL_law 1460 = .ok (.ifCond .ne 15, 3) := by decide +kernel
theorem dL_law_1463 : decode cL_law 1463 = .ok (.aload_n 3, 1) := by decide +kernel
theorem dL_law_1464 : decode cL_law 1464 = .ok (.iconst 0, 1) := by decide +kernel
theorem dL_law_1465 : decode cL_law 1465 = .ok (.laload, 1) := by decide +kernel
theorem dL_law_1466 : decode cL_law 1466 = .ok (.iload 7, 2) := by decide +kernel
theorem dL_law_1468 : decode cL_law 1468 = .ok (.i2l, 1) := by decide +kernel
theorem dL_law_1469 : decode cL_law 1469 = .ok (.lcmp, 1) := by decide +kernel
theorem dL_law_1470 : decode cL_law 1470 = .ok (.ifCond .eq 5, 3) := by decide +kernel
theorem dL_law_1473 : decode cL_law 1473 = .ok (.iconst 0, 1) := by decide +kernel
theorem dL_law_1474 : decode cL_law 1474 = .ok (.ireturn, 1) := by decide +kernel
theorem dL_law_1475 : decode cL_law 1475 = .ok (.goto 137, 3) := by decide +kernel
theorem dL_law_1478 : decode cL_law 1478 = .ok (.aload_n 1, 1) := by decide +kernel
theorem dL_law_1479 : decode cL_law 1479 = .ok (.aload_n 3, 1) := by decide +kernel
theorem dL_law_1480 : decode cL_law 1480 = .ok (.invokestatic 168, 3) := by decide +kernel
theorem dL_law_1483 : decode cL_law 1483 = .ok (.istore 6, 2) := by decide +kernel
theorem dL_law_1485 : decode cL_law 1485 = .ok (.aload_n 2, 1) := by decide +kernel
theorem dL_law_1486 : decode cL_law 1486 = .ok (.invokevirtual 170, 3) := by decide +kernel
theorem dL_law_1489 : decode cL_law 1489 = .ok (.istore 7, 2) := by decide +kernel
theorem dL_law_1491 : decode cL_law 1491 = .ok (.aload_n 2, 1) := by decide +kernel
theorem dL_law_1492 : decode cL_law 1492 = .ok (.invokevirtual 98, 3) := by decide +kernel
theorem dL_law_1495 : decode cL_law 1495 = .ok (.iload 6, 2) := by decide +kernel
theorem dL_law_1497 : decode cL_law 1497 = .ok (.if_icmp .eq 5, 3) := by decide +kernel
theorem dL_law_1500 : decode cL_law 1500 = .ok (.iconst 0, 1) := by decide +kernel
theorem dL_law_1501 : decode cL_law 1501 = .ok (.ireturn, 1) := by decide +kernel
theorem dL_law_1502 : decode cL_law 1502 = .ok (.iload 6, 2) := by decide +kernel
theorem dL_law_1504 : decode cL_law 1504 = .ok (.ifCond .ne 15, 3) := by decide +kernel
theorem dL_law_1507 : decode cL_law 1507 = .ok (.aload_n 3, 1) := by decide +kernel
theorem dL_law_1508 : decode cL_law 1508 = .ok (.iconst 0, 1) := by decide +kernel
theorem dL_law_1509 : decode cL_law 1509 = .ok (.laload, 1) := by decide +kernel
theorem dL_law_1510 : decode cL_law 1510 = .ok (.iload 7, 2) := by decide +kernel
theorem dL_law_1512 : decode cL_law 1512 = .ok (.i2l, 1) := by decide +kernel
theorem dL_law_1513 : decode cL_law 1513 = .ok (.lcmp, 1) := by decide +kernel
theorem dL_law_1514 : decode cL_law 1514 = .ok (.ifCond .eq 5, 3) := by decide +kernel
theorem dL_law_1517 : decode cL_law 1517 = .ok (.iconst 0, 1) := by decide +kernel
theorem dL_law_1518 : decode cL_law 1518 = .ok (.ireturn, 1) := by decide +kernel
theorem dL_law_1519 : decode cL_law 1519 = .ok (.goto 93, 3) := by decide +kernel
theorem dL_law_1522 : decode cL_law 1522 = .ok (.aload_n 1, 1) := by decide +kernel
theorem dL_law_1523 : decode cL_law 1523 = .ok (.aload_n 0, 1) := by decide +kernel
theorem dL_law_1524 : decode cL_law 1524 = .ok (.iload 5, 2) := by decide +kernel
theorem dL_law_1526 : decode cL_law 1526 = .ok (.iconst 1, 1) := by decide +kernel
theorem dL_law_1527 : decode cL_law 1527 = .ok (.iadd, 1) := by decide +kernel
theorem dL_law_1528 : decode cL_law 1528 = .ok (.iaload, 1) := by decide +kernel
theorem dL_law_1529 : decode cL_law 1529 = .ok (.aload_n 3, 1) := by decide +kernel
theorem dL_law_1530 : decode cL_law 1530 = .ok (.invokestatic 171, 3) := by decide +kernel
theorem dL_law_1533 : decode cL_law 1533 = .ok (.istore 6, 2) := by decide +kernel
theorem dL_law_1535 : decode cL_law 1535 = .ok (.aload_n 2, 1) := by decide +kernel
theorem dL_law_1536 : decode cL_law 1536 = .ok (.aload_n 0, 1) := by decide +kernel
theorem dL_law_1537 : decode cL_law 1537 = .ok (.iload 5, 2) := by decide +kernel
theorem dL_law_1539 : decode cL_law 1539 = .ok (.iconst 1, 1) := by decide +kernel
theorem dL_law_1540 : decode cL_law 1540 = .ok (.iadd, 1) := by decide +kernel
theorem dL_law_1541 : decode cL_law 1541 = .ok (.iaload, 1) := by decide +kernel
theorem dL_law_1542 : decode cL_law 1542 = .ok (.invokevirtual 173, 3) := by decide +kernel
theorem dL_law_1545 : decode cL_law 1545 = .ok (.istore 7, 2) := by decide +kernel
theorem dL_law_1547 : decode cL_law 1547 = .ok (.aload_n 2, 1) := by decide +kernel
theorem dL_law_1548 : decode cL_law 1548 = .ok (.invokevirtual 98, 3) := by decide +kernel
theorem dL_law_1551 : decode cL_law 1551 = .ok (.iload 6, 2) := by decide +kernel
theorem dL_law_1553 : decode cL_law 1553 = .ok (.if_icmp .eq 5, 3) := by decide +kernel
theorem dL_law_1556 : decode cL_law 1556 = .ok (.iconst 0, 1) := by decide +kernel
theorem dL_law_1557 : decode cL_law 1557 = .ok (.ireturn, 1) := by decide +kernel
theorem dL_law_1558 : decode cL_law 1558 = .ok (.iload 6, 2) := by decide +kernel
theorem dL_law_1560 : decode cL_law 1560 = .ok (.ifCond .ne 22, 3) := by decide +kernel
theorem dL_law_1563 : decode cL_law 1563 = .ok (.aload_n 3, 1) := by decide +kernel
theorem dL_law_1564 : decode cL_law 1564 = .ok (.iconst 0, 1) := by decide +kernel
theorem dL_law_1565 : decode cL_law 1565 = .ok (.laload, 1) := by decide +kernel
theorem dL_law_1566 : decode cL_law 1566 = .ok (.iload 7, 2) := by decide +kernel
theorem dL_law_1568 : decode cL_law 1568 = .ok (.ifCond .eq 7, 3) := by decide +kernel
theorem dL_law_1571 : decode cL_law 1571 = .ok (.lconst 1, 1) := by decide +kernel
theorem dL_law_1572 : decode cL_law 1572 = .ok (.goto 4, 3) := by decide +kernel
theorem dL_law_1575 : decode cL_law 1575 = .ok (.lconst 0, 1) := by decide +kernel
theorem dL_law_1576 : decode cL_law 1576 = .ok (.lcmp, 1) := by decide +kernel
theorem dL_law_1577 : decode cL_law 1577 = .ok (.ifCond .eq 5, 3) := by decide +kernel
theorem dL_law_1580 : decode cL_law 1580 = .ok (.iconst 0, 1) := by decide +kernel
theorem dL_law_1581 : decode cL_law 1581 = .ok (.ireturn, 1) := by decide +kernel
theorem dL_law_1582 : decode cL_law 1582 = .ok (.goto 30, 3) := by decide +kernel
theorem dL_law_1585 : decode cL_law 1585 = .ok (.aload_n 1, 1) := by decide +kernel
theorem dL_law_1586 : decode cL_law 1586 = .ok (.invokevirtual 174, 3) := by decide +kernel
theorem dL_law_1589 : decode cL_law 1589 = .ok (.aload_n 2, 1) := by decide +kernel
theorem dL_law_1590 : decode cL_law 1590 = .ok (.invokevirtual 177, 3) := by decide +kernel
theorem dL_law_1593 : decode cL_law 1593 = .ok (.if_icmp .eq 19, 3) := by decide +kernel
theorem dL_law_1596 : decode cL_law 1596 = .ok (.iconst 0, 1) := by decide +kernel
theorem dL_law_1597 : decode cL_law 1597 = .ok (.ireturn, 1) := by decide +kernel
theorem dL_law_1598 : decode cL_law 1598 = .ok (.aload_n 1, 1) := by decide +kernel
theorem dL_law_1599 : decode cL_law 1599 = .ok (.invokevirtual 178, 3) := by decide +kernel
theorem dL_law_1602 : decode cL_law 1602 = .ok (.aload_n 2, 1) := by decide +kernel
theorem dL_law_1603 : decode cL_law 1603 = .ok (.invokevirtual 182, 3) := by decide +kernel
theorem dL_law_1606 : decode cL_law 1606 = .ok (.lcmp, 1) := by decide +kernel
theorem dL_law_1607 : decode cL_law 1607 = .ok (.ifCond .eq 5, 3) := by decide +kernel
theorem dL_law_1610 : decode cL_law 1610 = .ok (.iconst 0, 1) := by decide +kernel
theorem dL_law_1611 : decode cL_law 1611 = .ok (.ireturn, 1) := by decide +kernel
theorem dL_law_1612 : decode cL_law 1612 = .ok (.iinc 5 4, 3) := by decide +kernel
theorem dL_law_1615 : decode cL_law 1615 = .ok (.goto (-1587), 3) := by decide +kernel
theorem dL_law_1618 : decode cL_law 1618 = .ok (.iconst 1, 1) := by decide +kernel
theorem dL_law_1619 : decode cL_law 1619 = .ok (.ireturn, 1) := by decide +kernel
end
