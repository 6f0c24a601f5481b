section
/-- over the whole library: the doubles' laws are named from here on -/
theorem wide_ok : FP.Core.sgn (.inf true) = true := rfl
end
section
-- ===== PART A: goes FIRST, ahead of the names: the tables' words, and 'selects' of the private methods out of them =====
/-- a private method of a class that the tables say can be made, by its rows of tables_1 -/
def lw_okq (q : MethodName × Nat) : Prop := (q.1.cls ≠ "java/lang/invoke/MethodHandle" ∧ q.1.cls ≠ "java/lang/invoke/VarHandle") ∧ Cond.instantiable q.1.cls q.2 ∈ tables_1 ∧ Cond.privateMethod q.1 ∈ tables_1 ∧ Cond.instanceMethod q.1 ∈ tables_1
theorem lw_p0 : lw_okq (⟨"LayerMoisture", "slotOf", "(I)LLayerMoisture$Board;"⟩, 8) := ⟨⟨by decide +kernel, by decide +kernel⟩, List.mem_of_getElem? (i := 18) (by decide +kernel), List.mem_of_getElem? (i := 274) (by decide +kernel), List.mem_of_getElem? (i := 275) (by decide +kernel)⟩
theorem lw_p1 : lw_okq (⟨"java/lang/Throwable", "fillInStackTrace", "(I)Ljava/lang/Throwable;"⟩, 6) := ⟨⟨by decide +kernel, by decide +kernel⟩, List.mem_of_getElem? (i := 318) (by decide +kernel), List.mem_of_getElem? (i := 316) (by decide +kernel), List.mem_of_getElem? (i := 317) (by decide +kernel)⟩
theorem lw_p2 : lw_okq (⟨"LayerMoisture", "kindOf", "(I)LLayerMoisture$Kind;"⟩, 8) := ⟨⟨by decide +kernel, by decide +kernel⟩, List.mem_of_getElem? (i := 18) (by decide +kernel), List.mem_of_getElem? (i := 351) (by decide +kernel), List.mem_of_getElem? (i := 352) (by decide +kernel)⟩
theorem lw_p3 : lw_okq (⟨"LayerMoisture", "requireLayer", "(I)V"⟩, 8) := ⟨⟨by decide +kernel, by decide +kernel⟩, List.mem_of_getElem? (i := 18) (by decide +kernel), List.mem_of_getElem? (i := 413) (by decide +kernel), List.mem_of_getElem? (i := 414) (by decide +kernel)⟩
theorem lw_p4 : lw_okq (⟨"LayerMoisture", "isRefused", "()Z"⟩, 8) := ⟨⟨by decide +kernel, by decide +kernel⟩, List.mem_of_getElem? (i := 18) (by decide +kernel), List.mem_of_getElem? (i := 445) (by decide +kernel), List.mem_of_getElem? (i := 446) (by decide +kernel)⟩
theorem lw_p5 : lw_okq (⟨"LayerMoisture", "passHour", "()V"⟩, 8) := ⟨⟨by decide +kernel, by decide +kernel⟩, List.mem_of_getElem? (i := 18) (by decide +kernel), List.mem_of_getElem? (i := 463) (by decide +kernel), List.mem_of_getElem? (i := 464) (by decide +kernel)⟩
theorem lw_p6 : lw_okq (⟨"LayerMoisture", "followPlan", "()V"⟩, 8) := ⟨⟨by decide +kernel, by decide +kernel⟩, List.mem_of_getElem? (i := 18) (by decide +kernel), List.mem_of_getElem? (i := 467) (by decide +kernel), List.mem_of_getElem? (i := 468) (by decide +kernel)⟩
theorem lw_p7 : lw_okq (⟨"LayerMoisture", "isStepDue", "(I)Z"⟩, 8) := ⟨⟨by decide +kernel, by decide +kernel⟩, List.mem_of_getElem? (i := 18) (by decide +kernel), List.mem_of_getElem? (i := 471) (by decide +kernel), List.mem_of_getElem? (i := 472) (by decide +kernel)⟩
theorem lw_p8 : lw_okq (⟨"LayerMoisture", "boardsThere", "()I"⟩, 8) := ⟨⟨by decide +kernel, by decide +kernel⟩, List.mem_of_getElem? (i := 18) (by decide +kernel), List.mem_of_getElem? (i := 475) (by decide +kernel), List.mem_of_getElem? (i := 476) (by decide +kernel)⟩
theorem lw_p9 : lw_okq (⟨"LayerMoisture", "isAnyWetterThan", "(D)Z"⟩, 8) := ⟨⟨by decide +kernel, by decide +kernel⟩, List.mem_of_getElem? (i := 18) (by decide +kernel), List.mem_of_getElem? (i := 480) (by decide +kernel), List.mem_of_getElem? (i := 481) (by decide +kernel)⟩
theorem lw_p10 : lw_okq (⟨"LayerMoisture", "boardThere", "(I)LLayerMoisture$Board;"⟩, 8) := ⟨⟨by decide +kernel, by decide +kernel⟩, List.mem_of_getElem? (i := 18) (by decide +kernel), List.mem_of_getElem? (i := 546) (by decide +kernel), List.mem_of_getElem? (i := 547) (by decide +kernel)⟩
theorem lw_p11 : lw_okq (⟨"LayerMoistureModel", "noBoard", "(I)Z"⟩, 31) := ⟨⟨by decide +kernel, by decide +kernel⟩, List.mem_of_getElem? (i := 589) (by decide +kernel), List.mem_of_getElem? (i := 699) (by decide +kernel), List.mem_of_getElem? (i := 700) (by decide +kernel)⟩
theorem lw_p12 : lw_okq (⟨"LayerMoistureModel", "noLayer", "(II)Z"⟩, 31) := ⟨⟨by decide +kernel, by decide +kernel⟩, List.mem_of_getElem? (i := 589) (by decide +kernel), List.mem_of_getElem? (i := 727) (by decide +kernel), List.mem_of_getElem? (i := 728) (by decide +kernel)⟩
theorem lw_p13 : lw_okq (⟨"LayerMoistureModel", "passStep", "()Z"⟩, 31) := ⟨⟨by decide +kernel, by decide +kernel⟩, List.mem_of_getElem? (i := 589) (by decide +kernel), List.mem_of_getElem? (i := 739) (by decide +kernel), List.mem_of_getElem? (i := 740) (by decide +kernel)⟩
theorem lw_p14 : lw_okq (⟨"LayerMoistureModel", "fail", "(I)Z"⟩, 31) := ⟨⟨by decide +kernel, by decide +kernel⟩, List.mem_of_getElem? (i := 589) (by decide +kernel), List.mem_of_getElem? (i := 743) (by decide +kernel), List.mem_of_getElem? (i := 744) (by decide +kernel)⟩
theorem lw_p15 : lw_okq (⟨"LayerMoistureModel", "passNumber", "(II)Z"⟩, 31) := ⟨⟨by decide +kernel, by decide +kernel⟩, List.mem_of_getElem? (i := 589) (by decide +kernel), List.mem_of_getElem? (i := 747) (by decide +kernel), List.mem_of_getElem? (i := 748) (by decide +kernel)⟩
def lw_privs_1 : List (MethodName × Nat) := [(⟨"LayerMoisture", "slotOf", "(I)LLayerMoisture$Board;"⟩, 8), (⟨"java/lang/Throwable", "fillInStackTrace", "(I)Ljava/lang/Throwable;"⟩, 6), (⟨"LayerMoisture", "kindOf", "(I)LLayerMoisture$Kind;"⟩, 8), (⟨"LayerMoisture", "requireLayer", "(I)V"⟩, 8), (⟨"LayerMoisture", "isRefused", "()Z"⟩, 8), (⟨"LayerMoisture", "passHour", "()V"⟩, 8), (⟨"LayerMoisture", "followPlan", "()V"⟩, 8), (⟨"LayerMoisture", "isStepDue", "(I)Z"⟩, 8), (⟨"LayerMoisture", "boardsThere", "()I"⟩, 8), (⟨"LayerMoisture", "isAnyWetterThan", "(D)Z"⟩, 8), (⟨"LayerMoisture", "boardThere", "(I)LLayerMoisture$Board;"⟩, 8), (⟨"LayerMoistureModel", "noBoard", "(I)Z"⟩, 31), (⟨"LayerMoistureModel", "noLayer", "(II)Z"⟩, 31), (⟨"LayerMoistureModel", "passStep", "()Z"⟩, 31), (⟨"LayerMoistureModel", "fail", "(I)Z"⟩, 31), (⟨"LayerMoistureModel", "passNumber", "(II)Z"⟩, 31)]
theorem lw_r1 : ∀ q ∈ lw_privs_1, lw_okq q := List.forall_mem_cons.mpr ⟨lw_p0, List.forall_mem_cons.mpr ⟨lw_p1, List.forall_mem_cons.mpr ⟨lw_p2, List.forall_mem_cons.mpr ⟨lw_p3, List.forall_mem_cons.mpr ⟨lw_p4, List.forall_mem_cons.mpr ⟨lw_p5, List.forall_mem_cons.mpr ⟨lw_p6, List.forall_mem_cons.mpr ⟨lw_p7, List.forall_mem_cons.mpr ⟨lw_p8, List.forall_mem_cons.mpr ⟨lw_p9, List.forall_mem_cons.mpr ⟨lw_p10, List.forall_mem_cons.mpr ⟨lw_p11, List.forall_mem_cons.mpr ⟨lw_p12, List.forall_mem_cons.mpr ⟨lw_p13, List.forall_mem_cons.mpr ⟨lw_p14, List.forall_mem_cons.mpr ⟨lw_p15, fun _ h => absurd h List.not_mem_nil⟩⟩⟩⟩⟩⟩⟩⟩⟩⟩⟩⟩⟩⟩⟩⟩
theorem lw_p16 : lw_okq (⟨"LayerMoistureModel", "isDigit", "()Z"⟩, 31) := ⟨⟨by decide +kernel, by decide +kernel⟩, List.mem_of_getElem? (i := 589) (by decide +kernel), List.mem_of_getElem? (i := 751) (by decide +kernel), List.mem_of_getElem? (i := 752) (by decide +kernel)⟩
theorem lw_p17 : lw_okq (⟨"LayerMoistureModel", "pass", "(I)Z"⟩, 31) := ⟨⟨by decide +kernel, by decide +kernel⟩, List.mem_of_getElem? (i := 589) (by decide +kernel), List.mem_of_getElem? (i := 755) (by decide +kernel), List.mem_of_getElem? (i := 756) (by decide +kernel)⟩
theorem lw_p18 : lw_okq (⟨"LayerMoistureModel", "isRefused", "()Z"⟩, 31) := ⟨⟨by decide +kernel, by decide +kernel⟩, List.mem_of_getElem? (i := 589) (by decide +kernel), List.mem_of_getElem? (i := 763) (by decide +kernel), List.mem_of_getElem? (i := 764) (by decide +kernel)⟩
theorem lw_p19 : lw_okq (⟨"LayerMoistureModel", "hour", "()V"⟩, 31) := ⟨⟨by decide +kernel, by decide +kernel⟩, List.mem_of_getElem? (i := 589) (by decide +kernel), List.mem_of_getElem? (i := 768) (by decide +kernel), List.mem_of_getElem? (i := 769) (by decide +kernel)⟩
theorem lw_p20 : lw_okq (⟨"LayerMoistureModel", "hasCome", "()Z"⟩, 31) := ⟨⟨by decide +kernel, by decide +kernel⟩, List.mem_of_getElem? (i := 589) (by decide +kernel), List.mem_of_getElem? (i := 772) (by decide +kernel), List.mem_of_getElem? (i := 773) (by decide +kernel)⟩
theorem lw_p21 : lw_okq (⟨"LayerMoistureModel", "meanOf", "(I)D"⟩, 31) := ⟨⟨by decide +kernel, by decide +kernel⟩, List.mem_of_getElem? (i := 589) (by decide +kernel), List.mem_of_getElem? (i := 776) (by decide +kernel), List.mem_of_getElem? (i := 777) (by decide +kernel)⟩
theorem lw_p22 : lw_okq (⟨"LayerMoistureModel", "sumOf", "(I)D"⟩, 31) := ⟨⟨by decide +kernel, by decide +kernel⟩, List.mem_of_getElem? (i := 589) (by decide +kernel), List.mem_of_getElem? (i := 780) (by decide +kernel), List.mem_of_getElem? (i := 781) (by decide +kernel)⟩
theorem lw_p23 : lw_okq (⟨"LayerMoistureModel", "hourOf", "(I)V"⟩, 31) := ⟨⟨by decide +kernel, by decide +kernel⟩, List.mem_of_getElem? (i := 589) (by decide +kernel), List.mem_of_getElem? (i := 785) (by decide +kernel), List.mem_of_getElem? (i := 786) (by decide +kernel)⟩
theorem lw_p24 : lw_okq (⟨"LayerMoistureModel", "balanceNow", "()D"⟩, 31) := ⟨⟨by decide +kernel, by decide +kernel⟩, List.mem_of_getElem? (i := 589) (by decide +kernel), List.mem_of_getElem? (i := 789) (by decide +kernel), List.mem_of_getElem? (i := 790) (by decide +kernel)⟩
theorem lw_p25 : lw_okq (⟨"LayerMoistureModel", "flow", "(II)D"⟩, 31) := ⟨⟨by decide +kernel, by decide +kernel⟩, List.mem_of_getElem? (i := 589) (by decide +kernel), List.mem_of_getElem? (i := 796) (by decide +kernel), List.mem_of_getElem? (i := 797) (by decide +kernel)⟩
theorem lw_p26 : lw_okq (⟨"LayerMoistureModel", "keep", "(I)V"⟩, 31) := ⟨⟨by decide +kernel, by decide +kernel⟩, List.mem_of_getElem? (i := 589) (by decide +kernel), List.mem_of_getElem? (i := 803) (by decide +kernel), List.mem_of_getElem? (i := 804) (by decide +kernel)⟩
theorem lw_p27 : lw_okq (⟨"LayerMoistureModel", "stressOf", "(II)D"⟩, 31) := ⟨⟨by decide +kernel, by decide +kernel⟩, List.mem_of_getElem? (i := 589) (by decide +kernel), List.mem_of_getElem? (i := 807) (by decide +kernel), List.mem_of_getElem? (i := 808) (by decide +kernel)⟩
theorem lw_p28 : lw_okq (⟨"LayerMoistureModel", "share", "(II)D"⟩, 31) := ⟨⟨by decide +kernel, by decide +kernel⟩, List.mem_of_getElem? (i := 589) (by decide +kernel), List.mem_of_getElem? (i := 811) (by decide +kernel), List.mem_of_getElem? (i := 812) (by decide +kernel)⟩
theorem lw_p29 : lw_okq (⟨"LayerMoistureModel", "isMissing", "(IZ)Z"⟩, 31) := ⟨⟨by decide +kernel, by decide +kernel⟩, List.mem_of_getElem? (i := 589) (by decide +kernel), List.mem_of_getElem? (i := 824) (by decide +kernel), List.mem_of_getElem? (i := 825) (by decide +kernel)⟩
def lw_privs_2 : List (MethodName × Nat) := [(⟨"LayerMoistureModel", "isDigit", "()Z"⟩, 31), (⟨"LayerMoistureModel", "pass", "(I)Z"⟩, 31), (⟨"LayerMoistureModel", "isRefused", "()Z"⟩, 31), (⟨"LayerMoistureModel", "hour", "()V"⟩, 31), (⟨"LayerMoistureModel", "hasCome", "()Z"⟩, 31), (⟨"LayerMoistureModel", "meanOf", "(I)D"⟩, 31), (⟨"LayerMoistureModel", "sumOf", "(I)D"⟩, 31), (⟨"LayerMoistureModel", "hourOf", "(I)V"⟩, 31), (⟨"LayerMoistureModel", "balanceNow", "()D"⟩, 31), (⟨"LayerMoistureModel", "flow", "(II)D"⟩, 31), (⟨"LayerMoistureModel", "keep", "(I)V"⟩, 31), (⟨"LayerMoistureModel", "stressOf", "(II)D"⟩, 31), (⟨"LayerMoistureModel", "share", "(II)D"⟩, 31), (⟨"LayerMoistureModel", "isMissing", "(IZ)Z"⟩, 31)]
theorem lw_r2 : ∀ q ∈ lw_privs_2, lw_okq q := List.forall_mem_cons.mpr ⟨lw_p16, List.forall_mem_cons.mpr ⟨lw_p17, List.forall_mem_cons.mpr ⟨lw_p18, List.forall_mem_cons.mpr ⟨lw_p19, List.forall_mem_cons.mpr ⟨lw_p20, List.forall_mem_cons.mpr ⟨lw_p21, List.forall_mem_cons.mpr ⟨lw_p22, List.forall_mem_cons.mpr ⟨lw_p23, List.forall_mem_cons.mpr ⟨lw_p24, List.forall_mem_cons.mpr ⟨lw_p25, List.forall_mem_cons.mpr ⟨lw_p26, List.forall_mem_cons.mpr ⟨lw_p27, List.forall_mem_cons.mpr ⟨lw_p28, List.forall_mem_cons.mpr ⟨lw_p29, fun _ h => absurd h List.not_mem_nil⟩⟩⟩⟩⟩⟩⟩⟩⟩⟩⟩⟩⟩⟩
def lw_privs : List (MethodName × Nat) := lw_privs_1 ++ (lw_privs_2)
def lw_tbl : List Cond := k2_sels lw_privs ++ tables_1
theorem lw_privs_ok : ∀ q ∈ lw_privs, lw_okq q := by
  show ∀ q ∈ lw_privs_1 ++ (lw_privs_2), lw_okq q
  exact List.forall_mem_append.mpr ⟨lw_r1, lw_r2⟩
end
section
/-! ===== BEGIN words of one list among another's, by their places ===== -/
theorem goodIn_r {big : List Cond} (ws : List Cond) (ps : List Nat) (hp : ws = ps.filterMap (fun i => big[i]?)) (h : ws.all goodWord = true) : GoodIn big ws := by
  intro w hw
  have h1 := List.all_eq_true.mp h w hw
  rw [hp] at hw
  obtain ⟨i, -, hi⟩ := List.mem_filterMap.mp hw
  have hm : w ∈ big := by first | exact List.mem_of_getElem? hi | exact List.getElem?_mem hi
  exact ⟨hm, good_of_word h1⟩
theorem goodIn_app {big a b : List Cond} (ha : GoodIn big a) (hb : GoodIn big b) : GoodIn big (a ++ b) := fun w h => (List.mem_append.mp h).elim (ha w) (hb w)
theorem goodIn_ca {big a b : List Cond} {c : Cond} (ha : GoodIn big (c :: a)) (hb : GoodIn big b) : GoodIn big (c :: (a ++ b)) := fun w h => (List.mem_cons.mp h).elim (fun e => ha w (List.mem_cons.mpr (Or.inl e))) (fun h => (List.mem_append.mp h).elim (fun h => ha w (List.mem_cons.mpr (Or.inr h))) (hb w))
theorem goodIn_sub {big ws : List Cond} (hm : ∀ w ∈ ws, w ∈ big) (h : ws.all goodWord = true) : GoodIn big ws := fun w hw => ⟨hm w hw, good_of_word (List.all_eq_true.mp h w hw)⟩
/-! ===== END ===== -/

/-! ===== BEGIN exceptions that leave a method, and their catching by the caller (launches without stack traces) ===== -/
section VXA
/-! The laws vx_back, vx_callV, vx_callS, vx_callSW, vx_throw0, vx_throwS follow proofs of the library, with one case more: JvmDerived/Free/Laws.lean (Back.of_free), Shelf42/LK1.lean (callV, callS), Shelf/KitTraced.lean (throwNew0V, throwNewS). -/
/-- where a method has thrown q: the class by its name, the cell, what was written, the world -/
def vx_T (XC : String → State → State → Prop) (st : State) (q : Addr) (t : State) (mc ms : Nat) (free : Addr → Prop) : Prop :=
  ∃ (E : String) (ce : Cell) (L : List Loc), XC E st t ∧ t.heap[q]? = some ce ∧ ce.vm = .none ∧ st.vm.findClass E = some ce.cls ∧ st.WarmedH t.vm ∧ st.sameButNew ({ t with vm := st.vm } : State) L mc ms ∧ ∀ z ∈ L, free z.base
def vx_Q (Qc : Array Value → State → Outcome → State → Prop) (XC : String → State → State → Prop) (mc ms : Nat) (free : Addr → Prop) : Array Value → State → Outcome → State → Prop := fun a st o t =>
  (Qc a st o t ∧ ∃ L, FrameEnd st o t L mc ms ∧ ∀ q ∈ L, free q.base) ∨ ∃ q, o = .threw q ∧ vx_T XC st q t mc ms free
/-- a callee that returns or throws -/
def vx_Met (l : Launch) (y : MethodName) (ws : List Cond) (rm : Room) (Pc : Array Value → State → Prop) (Qc : Array Value → State → Outcome → State → Prop) (XC : String → State → State → Prop) (mc ms : Nat) (free : Addr → Prop) : Prop :=
  MetFree l y (headSpec ws rm) Pc (fun _ _ _ _ _ => True) (vx_Q Qc XC mc ms free)
def vx_Post (XC : String → State → State → Prop) (mc ms : Nat) (free : Addr → Prop) : Pt → Array Value → Addr → Pt → Prop := fun A a q B =>
  ∃ (g : JFrame) (mk : MethodId) (t : State) (L : List Loc) (E : String) (ce : Cell), B.U.heap = t.heap ∧ B.U.vm = t.vm ∧ XC E (A.U.calling g mk a) t ∧ t.heap[q]? = some ce ∧ ce.vm = .none ∧ A.U.vm.findClass E = some ce.cls ∧ B.locs = A.locs ++ L ∧ (∀ z ∈ L, free z.base) ∧ B.cells = A.cells + mc ∧ B.slots = A.slots + ms
def vx_Back (l : Launch) (R : Room) (p : Program) (e : Env) (below : List Frame) (s : State) (sargs : Array Value) (y : MethodName) (len W9 : Nat)
    (Pre : Pt → Array Value → Prop) (Post : Pt → Array Value → Option Value → Pt → Prop) (PostX : Pt → Array Value → Addr → Pt → Prop) : Prop :=
  ∀ (m : MethodId) (meth : Method) (c : Code) (A : Pt) (g : JFrame) (ig : Instr) (mk : MethodId) (a : Array Value),
    Stand p l e R s m sargs below meth c A.U A.locs A.cells A.slots → g.method = m → g.locals.size = c.maxLocals → decode c.code g.pc = .ok (ig, len) →
    2 * g.monitorRoom + (g.stack.map fun v => v.category).sum ≤ W9 → A.U.methodNamed? y = some mk → Pre A a →
    (∃ (v : Option Value) (B : Pt), Stand p l e R s m sargs below meth c B.U B.locs B.cells B.slots ∧ Post A a v B ∧
      Steps p.tables e below (doInvoke e (A.U.setTop g) [] mk a).1 (B.U.setTop { g with pc := g.pc + len, stack := v.toList ++ g.stack })) ∨
    (∃ (q : Addr) (B : Pt), Stand p l e R s m sargs below meth c B.U B.locs B.cells B.slots ∧ PostX A a q B ∧
      Steps p.tables e below (doInvoke e (A.U.setTop g) [] mk a).1 ((B.U.setTop g).pushFrame (.throwing q)))
section Payer
variable {l : Launch} {R : Room} {p : Program} {e : Env} {below : List Frame} {s : State} {sargs : Array Value} {y : MethodName} {len W9 : Nat}
theorem vx_back {ws : List Cond} {rm : Room} {Pc : Array Value → State → Prop} {Qc : Array Value → State → Outcome → State → Prop} {XC : String → State → State → Prop} {mc ms : Nat} {free : Addr → Prop} {bytes : ByteArray} {maxL : Nat} {ret : Option FieldType}
    (hM : vx_Met l y ws rm Pc Qc XC mc ms free) (hblind : FrameBlind Pc) (hrc : rm.cells = mc) (hrs : rm.slots = ms)
    (hframes : rm.frames + 1 ≤ R.frames) (hlocals : W9 + (maxL + 11) + rm.locals ≤ R.locals)
    (hws : ∀ w ∈ ws, ∀ a' U, s.WarmedH U.vm → w.before a' U = true) (hcode : Cond.code y bytes maxL ret ∈ ws) (hinit : ∀ a' U, s.WarmedH U.vm → (Cond.initialized y.cls).before a' U = true) :
    vx_Back l R p e below s sargs y len W9 (PreOf R mc ms Pc) (PostOf Qc mc ms free) (vx_Post XC mc ms free) := by
  intro m meth c A g ig mk a X hg hsize hdg hW hn hp
  have h1 : (headSpec ws rm).pre.before a A.U = true := atoms_intro fun w hw => hws w hw _ _ X.warmed
  have h2 : (Cond.code y bytes maxL ret).before a A.U = true := hws _ hcode _ _ X.warmed
  have h3 : (Cond.initialized y.cls).before a A.U = true := hinit _ _ X.warmed
  have h4 : A.cells + (headSpec ws rm).room.cells ≤ R.cells := by rw [show (headSpec ws rm).room.cells = mc from hrc]; exact hp.1
  have h5 : A.slots + (headSpec ws rm).room.slots ≤ R.slots := by rw [show (headSpec ws rm).room.slots = ms from hrs]; exact hp.2.1
  have hPc : Pc a (A.U.calling g mk a) := hblind _ _ _ _ hp.2.2
  obtain ⟨U, Ls, c0, s0⟩ := A
  dsimp only [Pt.U, Pt.locs, Pt.cells, Pt.slots] at h1 h2 h3 h4 h5 X hn hPc ⊢
  obtain ⟨methY, cY, hmY, hcY, -, hlY, -, -, -, -⟩ := Cond.code_spec hn h2
  obtain ⟨kY, hkY, -⟩ := className_of_methodNamed hn
  have hinitY : kY.init = .initialized := Cond.initialized_spec (findClass_of_methodNamed hn) hkY h3
  have h : At U g.method c below := by rw [hg]; exact X.here
  have hlocals9 : W9 + (maxL + 11) + (headSpec ws rm).room.locals ≤ R.locals := hlocals
  have happ : (headSpec ws rm).appliesLoose y e.platform (U.calling g mk a) = true :=
    Spec.appliesLoose_calling (g := g) h hdg hn hkY hinitY
      (X.room_calling (g := g) (R' := (headSpec ws rm).room) hsize hmY hcY hframes (by rw [hlY]; omega) h4 h5) h1
  obtain ⟨mid, hmid⟩ := h.above
  have hfr : (U.setTop g).frames = (.java g :: mid) ++ below := by rw [State.frames_setTop' g h.top, hmid]; rfl
  obtain ⟨o, s₂, hsteps, -, hend, hq⟩ := Steps.callFree hM p X.admits X.cas X.clock (acts := []) hfr happ hPc trivial
  have hq' : vx_Q Qc XC mc ms free a (U.calling g mk a) o s₂ := hq
  rw [State.frames_setTop' g h.top] at hend
  obtain ⟨g₀, hg0⟩ := Option.isSome_iff_exists.mp h.top
  obtain ⟨r, hr⟩ := State.topJava?_eq_some.mp hg0
  have hr' : (({ U with heap := s₂.heap, slotsUsed := s₂.slotsUsed } : State).setVm s₂.vm).frames = .java g₀ :: r := hr
  rcases hq' with ⟨hqc, L, hfe, hL⟩ | ⟨q, rfl, E, ce, L, hx, hce, hcv, hcl, hW₂, hsm, hL⟩
  · obtain ⟨⟨v, rfl⟩, hW₂, e2, q2, q3, q4, q5, q6⟩ := id hfe
    have e3 : s₂ = ({ (U.calling g mk a).setFrames s₂.frames with heap := s₂.heap, slotsUsed := s₂.slotsUsed } : State).setVm s₂.vm := by
      have : s₂ = ({ s₂ with vm := (U.calling g mk a).vm } : State).setVm s₂.vm := rfl
      rw [e2] at this
      exact this
    obtain ⟨c₂, i₂, len₂, hc₂, hd₂, hf₂⟩ := hend
    have hW' : U.WarmedH s₂.vm := hW₂
    have hcc : c₂ = c := by
      have h1 : s₂.code? g.method = U.code? g.method := by
        rw [State.code?_eq, State.code?_eq, hW'.alike.method?]
      exact Option.some.inj (hc₂.symm.trans (h1.trans h.code))
    subst hcc
    have hlen : len₂ = len := by rw [hdg] at hd₂; cases hd₂; rfl
    subst hlen
    have hs₂ : s₂ = (({ U with heap := s₂.heap, slotsUsed := s₂.slotsUsed } : State).setVm s₂.vm).setTop { g with pc := g.pc + len₂, stack := v.toList ++ g.stack } := by
      refine e3.trans ?_
      rw [hf₂, State.calling_eq h.top, State.setFrames_setFrames, State.setTop_of_frames _ hr', hr]
      rfl
    have hsame : U.sameButNew ({ U with heap := s₂.heap, slotsUsed := s₂.slotsUsed } : State) L mc ms := by
      refine ⟨?_, q2, q3, q4, q5, q6⟩
      obtain ⟨t, ht, -⟩ := State.frames_cons hr
      show ({ U with heap := s₂.heap, slotsUsed := s₂.slotsUsed } : State) = { U.setFrames U.frames with heap := s₂.heap, slotsUsed := s₂.slotsUsed }
      rw [State.setFrames_self ht]
    subst hg
    refine Or.inl ⟨v, ⟨(({ U with heap := s₂.heap, slotsUsed := s₂.slotsUsed } : State).setVm s₂.vm), Ls ++ L, c0 + mc, s0 + ms⟩,
      ⟨X.admits, X.cas, X.clock, X.frames, X.room, X.hears, X.method, X.code, (X.here.setHeapUsed s₂.heap s₂.slotsUsed).setVm hW'.alike, X.tail, State.WarmedH.trans X.warmed hW', X.limits, X.bytes, X.same.trans (hsame.setVm s.vm)⟩,
      ⟨g, mk, s₂, L, rfl, rfl, hqc, rfl, hL, rfl, rfl⟩, ?_⟩
    show Steps p.tables e below _ ((({ U with heap := s₂.heap, slotsUsed := s₂.slotsUsed } : State).setVm s₂.vm).setTop { g with pc := g.pc + len₂, stack := v.toList ++ g.stack })
    rw [← hs₂]
    exact hsteps
  · obtain ⟨e2, q2, q3, q4, q5, q6⟩ := id hsm
    have e3 : s₂ = ({ (U.calling g mk a).setFrames s₂.frames with heap := s₂.heap, slotsUsed := s₂.slotsUsed } : State).setVm s₂.vm := by
      have : s₂ = ({ s₂ with vm := (U.calling g mk a).vm } : State).setVm s₂.vm := rfl
      rw [e2] at this
      exact this
    have hf₂ : s₂.frames = .throwing q :: .java g :: U.frames.tail := hend
    have hW' : U.WarmedH s₂.vm := hW₂
    have hs₂ : s₂ = ((({ U with heap := s₂.heap, slotsUsed := s₂.slotsUsed } : State).setVm s₂.vm).setTop g).pushFrame (.throwing q) := by
      refine e3.trans ?_
      rw [hf₂, State.calling_eq h.top, State.setFrames_setFrames, State.pushFrame, State.frames_setTop _ hr', State.setTop_of_frames _ hr', State.setFrames_setFrames, hr]
      rfl
    have hsame : U.sameButNew ({ U with heap := s₂.heap, slotsUsed := s₂.slotsUsed } : State) L mc ms := by
      refine ⟨?_, q2, q3, q4, q5, q6⟩
      obtain ⟨t, ht, -⟩ := State.frames_cons hr
      show ({ U with heap := s₂.heap, slotsUsed := s₂.slotsUsed } : State) = { U.setFrames U.frames with heap := s₂.heap, slotsUsed := s₂.slotsUsed }
      rw [State.setFrames_self ht]
    subst hg
    refine Or.inr ⟨q, ⟨(({ U with heap := s₂.heap, slotsUsed := s₂.slotsUsed } : State).setVm s₂.vm), Ls ++ L, c0 + mc, s0 + ms⟩,
      ⟨X.admits, X.cas, X.clock, X.frames, X.room, X.hears, X.method, X.code, (X.here.setHeapUsed s₂.heap s₂.slotsUsed).setVm hW'.alike, X.tail, State.WarmedH.trans X.warmed hW', X.limits, X.bytes, X.same.trans (hsame.setVm s.vm)⟩,
      ⟨g, mk, s₂, L, E, ce, rfl, rfl, hx, hce, hcv, hcl, rfl, hL, rfl, rfl⟩, ?_⟩
    show Steps p.tables e below _ (((({ U with heap := s₂.heap, slotsUsed := s₂.slotsUsed } : State).setVm s₂.vm).setTop g).pushFrame (.throwing q))
    rw [← hs₂]
    exact hsteps
end Payer
section Calls
variable {p : Program} {l : Launch} {e : Env} {R : Room} {s : State} {m : MethodId} {args : Array Value} {below : List Frame} {meth : Method} {c : Code} {T : State} {locs : List Loc} {cells slots : Nat}
theorem vx_callV (X : Stand p l e R s m args below meth c T locs cells slots) (hexec : p.tables.exec = Jvm.exec) {own C : String} {index : Nat} {y : MethodName} {bytes : ByteArray} {maxL : Nat} {ret : Option FieldType}
    (hown : s.vm.findClass own = some m.cls) (hlink : (Cond.methodLink own index y).before args s = true) (hinst : (Cond.instanceMethod y).before args s = true) (hsel : (Cond.selects C y y).before args s = true)
    (hcode : (Cond.code y bytes maxL ret).before args s = true) (hy : y.cls ≠ "java/lang/invoke/MethodHandle" ∧ y.cls ≠ "java/lang/invoke/VarHandle")
    {W9 : Nat} {Pre : Pt → Array Value → Prop} {Post : Pt → Array Value → Option Value → Pt → Prop} {PostX : Pt → Array Value → Addr → Pt → Prop} (hK : vx_Back l R p e below s args y 3 W9 Pre Post PostX)
    {b : Addr} {cellB : Cell} (hcell : T.heap[b]? = some cellB) (hobj : cellB.vm.isStatics = false) (hcls : s.vm.findClass C = some cellB.cls)
    {g : JFrame} (hg : g.method = m) (hsize : g.locals.size = c.maxLocals) {argsL rest : List Value} (hlen : ∀ sig, parseMethodDescriptor y.desc = some sig → argsL.length = sig.parameters.length)
    (hstack : g.stack = argsL.reverse ++ .ref b :: rest) (hW : 2 * g.monitorRoom + (rest.map fun v => v.category).sum ≤ W9) (hdg : decode c.code g.pc = .ok (.invokevirtual index, 3))
    (hpre : ∀ vm₁, s.WarmedH vm₁ → Pre ⟨T.setVm vm₁, locs, cells, slots⟩ (Value.ref b :: argsL).toArray) :
    (∃ (v : Option Value) (vm₁ : Vm) (B : Pt), s.WarmedH vm₁ ∧ Stand p l e R s m args below meth c B.U B.locs B.cells B.slots ∧ Post ⟨T.setVm vm₁, locs, cells, slots⟩ (Value.ref b :: argsL).toArray v B ∧
      ∀ target, Steps p.tables e below (B.U.setTop { g with pc := g.pc + 3, stack := v.toList ++ rest }) target → Steps p.tables e below (T.setTop g) target) ∨
    (∃ (q : Addr) (vm₁ : Vm) (B : Pt), s.WarmedH vm₁ ∧ Stand p l e R s m args below meth c B.U B.locs B.cells B.slots ∧ PostX ⟨T.setVm vm₁, locs, cells, slots⟩ (Value.ref b :: argsL).toArray q B ∧
      Steps p.tables e below (T.setTop g) ((B.U.setTop { g with stack := rest }).pushFrame (.throwing q))) := by
  obtain ⟨mk, methM, hnamed, hmethM, hstM, habM⟩ := Cond.instanceMethod_spec hinst
  obtain ⟨methM', cM, hmethM', -, -, -, -, -, -, hsigM⟩ := Cond.code_spec hnamed hcode
  cases hmethM.symm.trans hmethM'
  obtain ⟨c2, r2, m2, q1, q2, q3, q4, kP, hkP, hkPi⟩ := Cond.selects_spec hsel
  cases hcls.symm.trans q1
  cases (State.methodFound?_of_named hnamed hy).symm.trans q2
  cases hnamed.symm.trans q3
  have hselP : selectMethod e.platform s.vm cellB.cls mk = .method mk := by rw [Launch.admits_selectMethod X.admits]; exact q4
  obtain ⟨vm₁, X₁, hstep₁⟩ := X.invokevirtual hexec hown hlink hnamed hmethM hstM hkP hkPi hy (a := b) (cell := cellB) hcell
    (fun z h => by rw [h] at hobj; cases hobj) hselP hmethM habM hkP hkPi (g := g) hg (argsL := argsL) (rest := rest) (hlen _ hsigM) hstack hdg
  rcases hK m meth c ⟨T.setVm vm₁, locs, cells, slots⟩ { g with stack := rest } (.invokevirtual index) mk (Value.ref b :: argsL).toArray X₁ hg hsize hdg hW (X₁.named hnamed) (hpre vm₁ X₁.warmed) with ⟨v, B, X', hpost, hsteps⟩ | ⟨q, B, X', hpost, hsteps⟩
  · exact Or.inl ⟨v, vm₁, B, X₁.warmed, X', hpost, fun target h => hstep₁ _ fun acts => by rw [doInvoke_state]; exact hsteps.trans h⟩
  · exact Or.inr ⟨q, vm₁, B, X₁.warmed, X', hpost, hstep₁ _ fun acts => by rw [doInvoke_state]; exact hsteps⟩
theorem vx_callS (X : Stand p l e R s m args below meth c T locs cells slots) (hexec : p.tables.exec = Jvm.exec) {own : String} {index : Nat} {y : MethodName} {bytes : ByteArray} {maxL : Nat} {ret : Option FieldType}
    (hown : s.vm.findClass own = some m.cls) (hlink : (Cond.methodLink own index y).before args s = true) (hstat : (Cond.static y).before args s = true) (hinit : (Cond.initialized y.cls).before args s = true)
    (hcode : (Cond.code y bytes maxL ret).before args s = true) (hy : y.cls ≠ "java/lang/invoke/MethodHandle" ∧ y.cls ≠ "java/lang/invoke/VarHandle")
    {W9 : Nat} {Pre : Pt → Array Value → Prop} {Post : Pt → Array Value → Option Value → Pt → Prop} {PostX : Pt → Array Value → Addr → Pt → Prop} (hK : vx_Back l R p e below s args y 3 W9 Pre Post PostX)
    {g : JFrame} (hg : g.method = m) (hsize : g.locals.size = c.maxLocals) {argsL rest : List Value} (hlen : ∀ sig, parseMethodDescriptor y.desc = some sig → argsL.length = sig.parameters.length)
    (hstack : g.stack = argsL.reverse ++ rest) (hW : 2 * g.monitorRoom + (rest.map fun v => v.category).sum ≤ W9) (hdg : decode c.code g.pc = .ok (.invokestatic index, 3))
    (hpre : ∀ vm₁, s.WarmedH vm₁ → Pre ⟨T.setVm vm₁, locs, cells, slots⟩ argsL.toArray) :
    (∃ (v : Option Value) (vm₁ : Vm) (B : Pt), s.WarmedH vm₁ ∧ Stand p l e R s m args below meth c B.U B.locs B.cells B.slots ∧ Post ⟨T.setVm vm₁, locs, cells, slots⟩ argsL.toArray v B ∧
      ∀ target, Steps p.tables e below (B.U.setTop { g with pc := g.pc + 3, stack := v.toList ++ rest }) target → Steps p.tables e below (T.setTop g) target) ∨
    (∃ (q : Addr) (vm₁ : Vm) (B : Pt), s.WarmedH vm₁ ∧ Stand p l e R s m args below meth c B.U B.locs B.cells B.slots ∧ PostX ⟨T.setVm vm₁, locs, cells, slots⟩ argsL.toArray q B ∧
      Steps p.tables e below (T.setTop g) ((B.U.setTop { g with stack := rest }).pushFrame (.throwing q))) := by
  obtain ⟨mk, hnamed⟩ := Cond.code_named hcode
  obtain ⟨methM, cM, hmethM, -, -, -, -, -, -, hsigM⟩ := Cond.code_spec hnamed hcode
  have hstatic : methM.isStatic = true := Cond.static_spec hnamed hmethM hstat
  obtain ⟨kP, hkP, -⟩ := className_of_methodNamed hnamed
  have hinitP : kP.init = .initialized := Cond.initialized_spec (findClass_of_methodNamed hnamed) hkP hinit
  obtain ⟨vm₁, X₁, hstep₁⟩ := X.invokestatic hexec hown hlink hnamed hmethM hstatic hkP hinitP hy (g := g) hg (argsL := argsL) (rest := rest) (hlen _ hsigM) hstack hdg
  rcases hK m meth c ⟨T.setVm vm₁, locs, cells, slots⟩ { g with stack := rest } (.invokestatic index) mk argsL.toArray X₁ hg hsize hdg hW (X₁.named hnamed) (hpre vm₁ X₁.warmed) with ⟨v, B, X', hpost, hsteps⟩ | ⟨q, B, X', hpost, hsteps⟩
  · exact Or.inl ⟨v, vm₁, B, X₁.warmed, X', hpost, fun target h => hstep₁ _ fun acts => by rw [doInvoke_state]; exact hsteps.trans h⟩
  · exact Or.inr ⟨q, vm₁, B, X₁.warmed, X', hpost, hstep₁ _ fun acts => by rw [doInvoke_state]; exact hsteps⟩
end Calls
theorem vx_cls {s : State} {T : State} {vm₁ : Vm} {E : String} {k : ClassId} (hW : s.WarmedH vm₁) (h : (T.setVm vm₁).vm.findClass E = some k) : s.vm.findClass E = some k := by
  have h1 : vm₁.findClass E = some k := h
  rw [hW.alike.findClass] at h1
  exact h1
/-- the method's frame g, with q thrown over it -/
def vx_W (p : Program) (l : Launch) (e : Env) (R : Room) (s : State) (m : MethodId) (args : Array Value) (below : List Frame) (meth : Method) (c : Code) (H : Heap) (locs : List Loc) (cells slots : Nat) (Q : State → Prop) (g : JFrame) (q : Addr) : Prop :=
  ∀ T : State, T.heap = H → Stand p l e R s m args below meth c T locs cells slots → ∃ t, Steps p.tables e below ((T.setTop g).pushFrame (.throwing q)) t ∧ Q t
def vx_Run (p : Program) (l : Launch) (e : Env) (R : Room) (s : State) (m : MethodId) (args : Array Value) (below : List Frame) (meth : Method) (c : Code) (H : Heap) (locs : List Loc) (cells slots mc ms : Nat) (g : JFrame) (rest : List Value) (Qa : State → Outcome → State → Prop) (XC : String → State → State → Prop) (free : Addr → Prop) : Prop :=
  ∀ T : State, T.heap = H → Stand p l e R s m args below meth c T locs cells slots →
    (∃ (v : Option Value) (st₀ t T' : State) (L : List Loc), st₀.heap = H ∧ Stand p l e R s m args below meth c T' (locs ++ L) (cells + mc) (slots + ms) ∧ (∀ q ∈ L, free q.base) ∧ T'.heap = t.heap ∧ T'.vm = t.vm ∧ Qa st₀ (.returned v) t ∧
      Goes p e below T g T' { g with pc := g.pc + 3, stack := v.toList ++ rest }) ∨
    (∃ (q : Addr) (st₀ t T' : State) (L : List Loc) (E : String) (ce : Cell), st₀.heap = H ∧ Stand p l e R s m args below meth c T' (locs ++ L) (cells + mc) (slots + ms) ∧ (∀ z ∈ L, free z.base) ∧ T'.heap = t.heap ∧ T'.vm = t.vm ∧ XC E st₀ t ∧ t.heap[q]? = some ce ∧ ce.vm = .none ∧ s.vm.findClass E = some ce.cls ∧
      Steps p.tables e below (T.setTop g) ((T'.setTop { g with stack := rest }).pushFrame (.throwing q)))
def vx_X {S : Type} (px : S → Prop) (B : String → S → State → Prop) (A : Nat → Prop) : String → State → State → Prop := fun E st t => ∃ u : S, px u ∧ B E u t ∧ va_F A st t
section Runs
variable {p : Program} {l : Launch} {e : Env} {R : Room} {s : State} {m : MethodId} {args : Array Value} {below : List Frame} {meth : Method} {c : Code} {H : Heap} {locs : List Loc} {cells slots : Nat}
variable {y : MethodName} {bytes cc : ByteArray} {maxL nL mc ms n index : Nat} {ret : Option FieldType} {ws : List Cond} {rm : Room} {Pc : Array Value → State → Prop} {Qc : Array Value → State → Outcome → State → Prop} {XC : String → State → State → Prop} {free : Addr → Prop} {Ts : List Cond} {own C : String} {b : Addr} {As rest : List Value} {g : JFrame}
theorem vx_callBack (cb : CallB R s args own index y bytes maxL ret ws rm mc ms n) (hM : vx_Met l y ws rm Pc Qc XC mc ms free) (hbl : FrameBlind Pc) : vx_Back l R p e below s args y 3 8 (PreOf R mc ms Pc) (PostOf Qc mc ms free) (vx_Post XC mc ms free) := by
  obtain ⟨hrc, hrs, hfr, hlo, hws, hcw, -, hini, -⟩ := cb
  exact vx_back (bytes := bytes) (maxL := maxL) (ret := ret) hM hbl hrc hrs hfr hlo hws hcw (fun a' U hW => word_at hW (Or.inl (by first | rfl | simp [Cond.onTables, Cond.keeps, Cond.steady])) hini)
theorem vx_runV (S : CallFix p m c cc nL s args Ts own) (hM : vx_Met l y ws rm Pc Qc XC mc ms free) (cw : CallW R s args own C index y bytes maxL ret ws rm mc ms n) (hp : PreV s H C b Pc As)
    (hg : g.method = m) (hn : As.length = n) (hsize : g.locals.size = nL) (hstack : g.stack = As.reverse ++ .ref b :: rest) (hW : 2 * g.monitorRoom + (rest.map fun v => v.category).sum ≤ 8) (hdg : decode cc g.pc = .ok (.invokevirtual index, 3)) (hf : cells + mc ≤ R.cells ∧ slots + ms ≤ R.slots) :
    vx_Run p l e R s m args below meth c H locs cells slots mc ms g rest (Qc (Value.ref b :: As).toArray) XC free := by
  have hK : vx_Back l R p e below s args y 3 8 (PreOf R mc ms Pc) (PostOf Qc mc ms free) (vx_Post XC mc ms free) := vx_callBack cw.1 hM hp.1
  obtain ⟨⟨-, -, -, -, -, -, hcode, -, hy, hlen, hl⟩, hin, hse⟩ := cw
  obtain ⟨hx, hb, hml, ho, -⟩ := S
  obtain ⟨-, ⟨cellB, hcB, hoB, hclB⟩, hPc⟩ := hp
  intro T hT X
  rcases vx_callV X hx (C := C) (bytes := bytes) (maxL := maxL) (ret := ret) ho hl hin hse hcode hy hK (by rw [hT]; exact hcB) hoB hclB hg (hsize.trans hml.symm) (argsL := As) (rest := rest) (fun sig h => hn.trans (hlen sig h)) hstack hW (by rw [hb]; exact hdg)
    (fun vm₁ hW₁ => ⟨hf.1, hf.2, hPc (T.setVm vm₁) hT hW₁⟩) with ⟨v, vm₁, ⟨U', l2, c2, s2⟩, hW₁, X', ⟨g', mk, t, L, e1, e2, hq, h1, hL, h2, h3⟩, st⟩ | ⟨q, vm₁, ⟨U', l2, c2, s2⟩, hW₁, X', ⟨g', mk, t, L, E, ce, e1, e2, hq, hce, hcv, hcl, h1, hL, h2, h3⟩, st⟩
  · dsimp only [Pt.U, Pt.locs, Pt.cells, Pt.slots] at X' e1 e2 h1 h2 h3 st
    subst h1; subst h2; subst h3
    exact Or.inl ⟨v, (T.setVm vm₁).calling g' mk (Value.ref b :: As).toArray, t, U', L, hT, X', hL, e1, e2, hq, st⟩
  · dsimp only [Pt.U, Pt.locs, Pt.cells, Pt.slots] at X' e1 e2 h1 h2 h3 st hcl
    subst h1; subst h2; subst h3
    exact Or.inr ⟨q, (T.setVm vm₁).calling g' mk (Value.ref b :: As).toArray, t, U', L, E, ce, hT, X', hL, e1, e2, hq, hce, hcv, vx_cls hW₁ hcl, st⟩
theorem vx_runS (S : CallFix p m c cc nL s args Ts own) (hM : vx_Met l y ws rm Pc Qc XC mc ms free) (cw : CallB R s args own index y bytes maxL ret ws rm mc ms n ∧ (Cond.static y).before args s = true) (hp : PreS s H Pc As)
    (hg : g.method = m) (hn : As.length = n) (hsize : g.locals.size = nL) (hstack : g.stack = As.reverse ++ rest) (hW : 2 * g.monitorRoom + (rest.map fun v => v.category).sum ≤ 8) (hdg : decode cc g.pc = .ok (.invokestatic index, 3)) (hf : cells + mc ≤ R.cells ∧ slots + ms ≤ R.slots) :
    vx_Run p l e R s m args below meth c H locs cells slots mc ms g rest (Qc As.toArray) XC free := by
  have hK : vx_Back l R p e below s args y 3 8 (PreOf R mc ms Pc) (PostOf Qc mc ms free) (vx_Post XC mc ms free) := vx_callBack cw.1 hM hp.1
  obtain ⟨⟨-, -, -, -, -, -, hcode, hini, hy, hlen, hl⟩, hstt⟩ := cw
  obtain ⟨hx, hb, hml, ho, -⟩ := S
  intro T hT X
  rcases vx_callS X hx (bytes := bytes) (maxL := maxL) (ret := ret) ho hl hstt hini hcode hy hK hg (hsize.trans hml.symm) (argsL := As) (rest := rest) (fun sig h => hn.trans (hlen sig h)) hstack hW (by rw [hb]; exact hdg)
    (fun vm₁ hW₁ => ⟨hf.1, hf.2, hp.2 (T.setVm vm₁) hT hW₁⟩) with ⟨v, vm₁, ⟨U', l2, c2, s2⟩, hW₁, X', ⟨g', mk, t, L, e1, e2, hq, h1, hL, h2, h3⟩, st⟩ | ⟨q, vm₁, ⟨U', l2, c2, s2⟩, hW₁, X', ⟨g', mk, t, L, E, ce, e1, e2, hq, hce, hcv, hcl, h1, hL, h2, h3⟩, st⟩
  · dsimp only [Pt.U, Pt.locs, Pt.cells, Pt.slots] at X' e1 e2 h1 h2 h3 st
    subst h1; subst h2; subst h3
    exact Or.inl ⟨v, (T.setVm vm₁).calling g' mk As.toArray, t, U', L, hT, X', hL, e1, e2, hq, st⟩
  · dsimp only [Pt.U, Pt.locs, Pt.cells, Pt.slots] at X' e1 e2 h1 h2 h3 st hcl
    subst h1; subst h2; subst h3
    exact Or.inr ⟨q, (T.setVm vm₁).calling g' mk As.toArray, t, U', L, E, ce, hT, X', hL, e1, e2, hq, hce, hcv, vx_cls hW₁ hcl, st⟩
end Runs
section Rows
variable {p : Program} {l : Launch} {e : Env} {R : Room} {s : State} {m : MethodId} {args : Array Value} {below : List Frame} {meth : Method} {c : Code} {H : Heap} {locs : List Loc} {cells slots : Nat} {Q : State → Prop}
variable {mc ms : Nat} {free : Addr → Prop} {A0 A1 : Nat → Prop} {H0 : Heap} {a : Array Value} {pc : Nat} {ls : Array Slot} {st0 rest : List Value}
theorem vx_keep {st₀ t T' : State} {L : List Loc} (h0 : st₀.heap = H) (e1 : T'.heap = t.heap) (hS : va_S A0 H0 H locs) (hA : ∀ q, q < H.size → A1 q → A0 q) (hf : ∀ q, free q → A0 q) (hL : ∀ q ∈ L, free q.base) (hF : va_F A1 st₀ t) :
    H.size ≤ T'.heap.size ∧ (∀ q : Nat, q < H.size → ¬ A1 q → T'.heap[q]? = H[q]?) ∧ va_S A0 H0 T'.heap (locs ++ L) := by
  obtain ⟨hz, hk⟩ := hF
  rw [h0] at hz hk
  exact ⟨by rw [e1]; exact hz, fun q h1 h2 => by rw [e1]; exact hk q h1 h2,
    ⟨Nat.le_trans hS.1 (by rw [e1]; exact hz), fun q h1 h2 => by rw [e1, hk q (Nat.lt_of_lt_of_le h1 hS.1) (fun z => h2 (hA q (Nat.lt_of_lt_of_le h1 hS.1) z))]; exact hS.2.1 q h1 h2, fun q hq => by
      rcases List.mem_append.mp hq with h | h
      · exact hS.2.2 q h
      · exact hf _ (hL q h)⟩⟩
theorem vx_calli {S SX : Type} {post : Int32 → S → Prop} {px : SX → Prop} {B : S → State → Prop} {BX : String → SX → State → Prop} {AX : Nat → Prop} (hr : vx_Run p l e R s m args below meth c H locs cells slots mc ms (F0 m pc ls st0) rest (va_Qi post B A1 a) (vx_X px BX AX) free) (hS : va_S A0 H0 H locs) (hA : ∀ q, q < H.size → A1 q → A0 q) (hf : ∀ q, free q → A0 q) (hAX : ∀ q, q < H.size → AX q → A0 q)
    (kx : ∀ (E : String) (ce : Cell) (q9 : Addr) (u : SX) (t : State) (H1 : Heap) (locs1 : List Loc), t.heap = H1 → s.vm.Alike t.vm → px u → BX E u t → H.size ≤ H1.size → (∀ q : Nat, q < H.size → ¬ AX q → H1[q]? = H[q]?) → va_S A0 H0 H1 locs1 → H1[q9]? = some ce → ce.vm = .none → s.vm.findClass E = some ce.cls → vx_W p l e R s m args below meth c H1 locs1 (cells + mc) (slots + ms) Q (F0 m pc ls rest) q9)
    (kk : ∀ (r : Int32) (u : S) (t : State) (H1 : Heap) (locs1 : List Loc), t.heap = H1 → s.vm.Alike t.vm → post r u → B u t → H.size ≤ H1.size → (∀ q : Nat, q < H.size → ¬ A1 q → H1[q]? = H[q]?) → va_S A0 H0 H1 locs1 → W p l e R s m args below meth c H1 locs1 (cells + mc) (slots + ms) Q (F0 m (pc + 3) ls (.int r :: rest))) : W p l e R s m args below meth c H locs cells slots Q (F0 m pc ls st0) := by
  intro T hT X
  rcases hr T hT X with ⟨v, st₀, t, T', L, h0, X', hL, e1, e2, ⟨⟨r, u, hv, hp, hb⟩, hF⟩, st⟩ | ⟨q, st₀, t, T', L, E, ce, h0, X', hL, e1, e2, ⟨u, hp, hb, hF⟩, hce, hcv, hcl, st⟩
  · cases hv
    obtain ⟨k1, k2, k3⟩ := vx_keep h0 e1 hS hA hf hL hF
    obtain ⟨t2, a1, b1⟩ := kk r u t T'.heap (locs ++ L) e1.symm (by rw [← e2]; exact X'.warmed.alike) hp hb k1 k2 k3 T' rfl X'
    exact ⟨t2, st t2 a1, b1⟩
  · obtain ⟨k1, k2, k3⟩ := vx_keep h0 e1 hS hAX hf hL hF
    obtain ⟨t2, a1, b1⟩ := kx E ce q u t T'.heap (locs ++ L) e1.symm (by rw [← e2]; exact X'.warmed.alike) hp hb k1 k2 k3 (by rw [e1]; exact hce) hcv hcl T' rfl X'
    exact ⟨t2, st.trans a1, b1⟩
theorem vx_calll {S SX : Type} {post : Int64 → S → Prop} {px : SX → Prop} {B : S → State → Prop} {BX : String → SX → State → Prop} {AX : Nat → Prop} (hr : vx_Run p l e R s m args below meth c H locs cells slots mc ms (F0 m pc ls st0) rest (va_Ql post B A1 a) (vx_X px BX AX) free) (hS : va_S A0 H0 H locs) (hA : ∀ q, q < H.size → A1 q → A0 q) (hf : ∀ q, free q → A0 q) (hAX : ∀ q, q < H.size → AX q → A0 q)
    (kx : ∀ (E : String) (ce : Cell) (q9 : Addr) (u : SX) (t : State) (H1 : Heap) (locs1 : List Loc), t.heap = H1 → s.vm.Alike t.vm → px u → BX E u t → H.size ≤ H1.size → (∀ q : Nat, q < H.size → ¬ AX q → H1[q]? = H[q]?) → va_S A0 H0 H1 locs1 → H1[q9]? = some ce → ce.vm = .none → s.vm.findClass E = some ce.cls → vx_W p l e R s m args below meth c H1 locs1 (cells + mc) (slots + ms) Q (F0 m pc ls rest) q9)
    (kk : ∀ (r : Int64) (u : S) (t : State) (H1 : Heap) (locs1 : List Loc), t.heap = H1 → s.vm.Alike t.vm → post r u → B u t → H.size ≤ H1.size → (∀ q : Nat, q < H.size → ¬ A1 q → H1[q]? = H[q]?) → va_S A0 H0 H1 locs1 → W p l e R s m args below meth c H1 locs1 (cells + mc) (slots + ms) Q (F0 m (pc + 3) ls (.long r :: rest))) : W p l e R s m args below meth c H locs cells slots Q (F0 m pc ls st0) := by
  intro T hT X
  rcases hr T hT X with ⟨v, st₀, t, T', L, h0, X', hL, e1, e2, ⟨⟨r, u, hv, hp, hb⟩, hF⟩, st⟩ | ⟨q, st₀, t, T', L, E, ce, h0, X', hL, e1, e2, ⟨u, hp, hb, hF⟩, hce, hcv, hcl, st⟩
  · cases hv
    obtain ⟨k1, k2, k3⟩ := vx_keep h0 e1 hS hA hf hL hF
    obtain ⟨t2, a1, b1⟩ := kk r u t T'.heap (locs ++ L) e1.symm (by rw [← e2]; exact X'.warmed.alike) hp hb k1 k2 k3 T' rfl X'
    exact ⟨t2, st t2 a1, b1⟩
  · obtain ⟨k1, k2, k3⟩ := vx_keep h0 e1 hS hAX hf hL hF
    obtain ⟨t2, a1, b1⟩ := kx E ce q u t T'.heap (locs ++ L) e1.symm (by rw [← e2]; exact X'.warmed.alike) hp hb k1 k2 k3 (by rw [e1]; exact hce) hcv hcl T' rfl X'
    exact ⟨t2, st.trans a1, b1⟩
theorem vx_callf {S SX : Type} {post : UInt32 → S → Prop} {px : SX → Prop} {B : S → State → Prop} {BX : String → SX → State → Prop} {AX : Nat → Prop} (hr : vx_Run p l e R s m args below meth c H locs cells slots mc ms (F0 m pc ls st0) rest (va_Qf post B A1 a) (vx_X px BX AX) free) (hS : va_S A0 H0 H locs) (hA : ∀ q, q < H.size → A1 q → A0 q) (hf : ∀ q, free q → A0 q) (hAX : ∀ q, q < H.size → AX q → A0 q)
    (kx : ∀ (E : String) (ce : Cell) (q9 : Addr) (u : SX) (t : State) (H1 : Heap) (locs1 : List Loc), t.heap = H1 → s.vm.Alike t.vm → px u → BX E u t → H.size ≤ H1.size → (∀ q : Nat, q < H.size → ¬ AX q → H1[q]? = H[q]?) → va_S A0 H0 H1 locs1 → H1[q9]? = some ce → ce.vm = .none → s.vm.findClass E = some ce.cls → vx_W p l e R s m args below meth c H1 locs1 (cells + mc) (slots + ms) Q (F0 m pc ls rest) q9)
    (kk : ∀ (r : UInt32) (u : S) (t : State) (H1 : Heap) (locs1 : List Loc), t.heap = H1 → s.vm.Alike t.vm → post r u → B u t → H.size ≤ H1.size → (∀ q : Nat, q < H.size → ¬ A1 q → H1[q]? = H[q]?) → va_S A0 H0 H1 locs1 → W p l e R s m args below meth c H1 locs1 (cells + mc) (slots + ms) Q (F0 m (pc + 3) ls (.float r :: rest))) : W p l e R s m args below meth c H locs cells slots Q (F0 m pc ls st0) := by
  intro T hT X
  rcases hr T hT X with ⟨v, st₀, t, T', L, h0, X', hL, e1, e2, ⟨⟨r, u, hv, hp, hb⟩, hF⟩, st⟩ | ⟨q, st₀, t, T', L, E, ce, h0, X', hL, e1, e2, ⟨u, hp, hb, hF⟩, hce, hcv, hcl, st⟩
  · cases hv
    obtain ⟨k1, k2, k3⟩ := vx_keep h0 e1 hS hA hf hL hF
    obtain ⟨t2, a1, b1⟩ := kk r u t T'.heap (locs ++ L) e1.symm (by rw [← e2]; exact X'.warmed.alike) hp hb k1 k2 k3 T' rfl X'
    exact ⟨t2, st t2 a1, b1⟩
  · obtain ⟨k1, k2, k3⟩ := vx_keep h0 e1 hS hAX hf hL hF
    obtain ⟨t2, a1, b1⟩ := kx E ce q u t T'.heap (locs ++ L) e1.symm (by rw [← e2]; exact X'.warmed.alike) hp hb k1 k2 k3 (by rw [e1]; exact hce) hcv hcl T' rfl X'
    exact ⟨t2, st.trans a1, b1⟩
theorem vx_calld {S SX : Type} {post : UInt64 → S → Prop} {px : SX → Prop} {B : S → State → Prop} {BX : String → SX → State → Prop} {AX : Nat → Prop} (hr : vx_Run p l e R s m args below meth c H locs cells slots mc ms (F0 m pc ls st0) rest (va_Qd post B A1 a) (vx_X px BX AX) free) (hS : va_S A0 H0 H locs) (hA : ∀ q, q < H.size → A1 q → A0 q) (hf : ∀ q, free q → A0 q) (hAX : ∀ q, q < H.size → AX q → A0 q)
    (kx : ∀ (E : String) (ce : Cell) (q9 : Addr) (u : SX) (t : State) (H1 : Heap) (locs1 : List Loc), t.heap = H1 → s.vm.Alike t.vm → px u → BX E u t → H.size ≤ H1.size → (∀ q : Nat, q < H.size → ¬ AX q → H1[q]? = H[q]?) → va_S A0 H0 H1 locs1 → H1[q9]? = some ce → ce.vm = .none → s.vm.findClass E = some ce.cls → vx_W p l e R s m args below meth c H1 locs1 (cells + mc) (slots + ms) Q (F0 m pc ls rest) q9)
    (kk : ∀ (r : UInt64) (u : S) (t : State) (H1 : Heap) (locs1 : List Loc), t.heap = H1 → s.vm.Alike t.vm → post r u → B u t → H.size ≤ H1.size → (∀ q : Nat, q < H.size → ¬ A1 q → H1[q]? = H[q]?) → va_S A0 H0 H1 locs1 → W p l e R s m args below meth c H1 locs1 (cells + mc) (slots + ms) Q (F0 m (pc + 3) ls (.double r :: rest))) : W p l e R s m args below meth c H locs cells slots Q (F0 m pc ls st0) := by
  intro T hT X
  rcases hr T hT X with ⟨v, st₀, t, T', L, h0, X', hL, e1, e2, ⟨⟨r, u, hv, hp, hb⟩, hF⟩, st⟩ | ⟨q, st₀, t, T', L, E, ce, h0, X', hL, e1, e2, ⟨u, hp, hb, hF⟩, hce, hcv, hcl, st⟩
  · cases hv
    obtain ⟨k1, k2, k3⟩ := vx_keep h0 e1 hS hA hf hL hF
    obtain ⟨t2, a1, b1⟩ := kk r u t T'.heap (locs ++ L) e1.symm (by rw [← e2]; exact X'.warmed.alike) hp hb k1 k2 k3 T' rfl X'
    exact ⟨t2, st t2 a1, b1⟩
  · obtain ⟨k1, k2, k3⟩ := vx_keep h0 e1 hS hAX hf hL hF
    obtain ⟨t2, a1, b1⟩ := kx E ce q u t T'.heap (locs ++ L) e1.symm (by rw [← e2]; exact X'.warmed.alike) hp hb k1 k2 k3 (by rw [e1]; exact hce) hcv hcl T' rfl X'
    exact ⟨t2, st.trans a1, b1⟩
theorem vx_callv {S SX : Type} {post : S → Prop} {px : SX → Prop} {B : S → State → Prop} {BX : String → SX → State → Prop} {AX : Nat → Prop} (hr : vx_Run p l e R s m args below meth c H locs cells slots mc ms (F0 m pc ls st0) rest (va_Qv post B A1 a) (vx_X px BX AX) free) (hS : va_S A0 H0 H locs) (hA : ∀ q, q < H.size → A1 q → A0 q) (hf : ∀ q, free q → A0 q) (hAX : ∀ q, q < H.size → AX q → A0 q)
    (kx : ∀ (E : String) (ce : Cell) (q9 : Addr) (u : SX) (t : State) (H1 : Heap) (locs1 : List Loc), t.heap = H1 → s.vm.Alike t.vm → px u → BX E u t → H.size ≤ H1.size → (∀ q : Nat, q < H.size → ¬ AX q → H1[q]? = H[q]?) → va_S A0 H0 H1 locs1 → H1[q9]? = some ce → ce.vm = .none → s.vm.findClass E = some ce.cls → vx_W p l e R s m args below meth c H1 locs1 (cells + mc) (slots + ms) Q (F0 m pc ls rest) q9)
    (kk : ∀ (u : S) (t : State) (H1 : Heap) (locs1 : List Loc), t.heap = H1 → s.vm.Alike t.vm → post u → B u t → H.size ≤ H1.size → (∀ q : Nat, q < H.size → ¬ A1 q → H1[q]? = H[q]?) → va_S A0 H0 H1 locs1 → W p l e R s m args below meth c H1 locs1 (cells + mc) (slots + ms) Q (F0 m (pc + 3) ls (rest))) : W p l e R s m args below meth c H locs cells slots Q (F0 m pc ls st0) := by
  intro T hT X
  rcases hr T hT X with ⟨v, st₀, t, T', L, h0, X', hL, e1, e2, ⟨⟨u, hv, hp, hb⟩, hF⟩, st⟩ | ⟨q, st₀, t, T', L, E, ce, h0, X', hL, e1, e2, ⟨u, hp, hb, hF⟩, hce, hcv, hcl, st⟩
  · cases hv
    obtain ⟨k1, k2, k3⟩ := vx_keep h0 e1 hS hA hf hL hF
    obtain ⟨t2, a1, b1⟩ := kk u t T'.heap (locs ++ L) e1.symm (by rw [← e2]; exact X'.warmed.alike) hp hb k1 k2 k3 T' rfl X'
    exact ⟨t2, st t2 a1, b1⟩
  · obtain ⟨k1, k2, k3⟩ := vx_keep h0 e1 hS hAX hf hL hF
    obtain ⟨t2, a1, b1⟩ := kx E ce q u t T'.heap (locs ++ L) e1.symm (by rw [← e2]; exact X'.warmed.alike) hp hb k1 k2 k3 (by rw [e1]; exact hce) hcv hcl T' rfl X'
    exact ⟨t2, st.trans a1, b1⟩
end Rows
section Ends
variable {p : Program} {l : Launch} {e : Env} {R : Room} {s : State} {m : MethodId} {args : Array Value} {below : List Frame} {meth : Method} {c : Code} {H : Heap} {locs : List Loc} {cells slots : Nat} {Q : State → Prop}
variable {mc ms : Nat} {free : Addr → Prop} {A0 A1 : Nat → Prop} {H0 : Heap} {a : Array Value} {ls : Array Slot} {st0 rest : List Value}
variable {Qc : Array Value → State → Outcome → State → Prop} {XC : String → State → State → Prop}
/-- what a body that may throw owes at its end -/
def vx_MQ (below : List Frame) (Qc : Array Value → State → Outcome → State → Prop) (XC : String → State → State → Prop) (a : Array Value) (s : State) (mc ms : Nat) (free : Addr → Prop) : State → Prop := fun t =>
  ∃ o, t.status = .running ∧ Ended t below o ∧ vx_Q Qc XC mc ms free a s o t
theorem vx_ret {g : JFrame} {mc ms : Nat} (k : W p l e R s m args below meth c H locs cells slots (MQ below Qc args s mc ms free) g) : W p l e R s m args below meth c H locs cells slots (vx_MQ below Qc XC args s mc ms free) g := by
  intro T hT X
  obtain ⟨t, a1, o, b1, b2, b3, b4⟩ := k T hT X
  exact ⟨t, a1, o, b1, b2, Or.inl ⟨b3, b4⟩⟩
/-- not caught here: it goes on to the caller -/
theorem vx_widen {g : JFrame} {q : Addr} {k n : Nat} (h1 : cells ≤ k) (h2 : slots ≤ n) (kk : vx_W p l e R s m args below meth c H locs k n Q g q) : vx_W p l e R s m args below meth c H locs cells slots Q g q := fun T hT X => kk T hT (stand_widen X h1 h2)
theorem vx_out {pc : Nat} {E : String} {ce : Cell} {q : Addr} {mc ms : Nat} (hout : ∀ x ∈ c.exceptionTable.toList, covers x pc = false) (hlocks : meth.locks = false) (hcell : H[q]? = some ce) (hv : ce.vm = .none) (hcl : s.vm.findClass E = some ce.cls)
    (hx : ∀ t : State, t.heap = H → s.vm.Alike t.vm → XC E s t) (hf : ∀ z ∈ locs, free z.base) (hc : cells ≤ mc) (hs : slots ≤ ms) :
    vx_W p l e R s m args below meth c H locs cells slots (vx_MQ below Qc XC args s mc ms free) (F0 m pc ls rest) q := by
  intro T hT X
  obtain ⟨st1, hrun, hend, hW, hsm⟩ := X.leaveThrown q (g := F0 m pc ls rest) rfl rfl rfl hout hlocks
  have hcell9 : (T.setFrames (.throwing q :: below)).heap[q]? = some ce := by
    show T.heap[q]? = some ce
    rw [hT]; exact hcell
  exact ⟨_, st1, .threw q, hrun, hend, Or.inr ⟨q, rfl, E, ce, locs, hx _ hT hW.alike, hcell9, hv, hcl, hW, hsm.mono hc hs, hf⟩⟩
theorem vx_frame {U : State} {k n : Nat} (h : s.sameButNew ({ U with vm := s.vm } : State) locs k n) : s.heap.size ≤ U.heap.size ∧ ∀ q : Nat, q < s.heap.size → (∀ z ∈ locs, z.base ≠ q) → U.heap[q]? = s.heap[q]? := by
  obtain ⟨-, h2, -, -, -, h6⟩ := h
  refine ⟨h2, fun q hq hz => ?_⟩
  obtain ⟨c9, e1, e2, e3, e4⟩ := h6 q _ (Array.getElem?_eq_getElem hq)
  have hs : c9.slots = (s.heap[q]).slots := Array.ext_getElem? fun i => e4 i fun hm => hz _ hm rfl
  have h9 : c9 = s.heap[q] := by
    rw [hs] at e2
    exact e2
  have e5 : U.heap[q]? = some c9 := e1
  rw [e5, h9, Array.getElem?_eq_getElem hq]
/-- the words of a throw but the four that speak of the heap -/
def vx_no (w : Cond) : Bool := decide (w ≠ .isRef (.static Bundle.tN "UNASSIGNED_STACK" Bundle.steD)) && decide (w ≠ .isRef (.static Bundle.tN "SUPPRESSED_SENTINEL" Bundle.listD)) && decide (w ≠ .laysStatic Bundle.tN "UNASSIGNED_STACK" Bundle.steD) && decide (w ≠ .laysStatic Bundle.tN "SUPPRESSED_SENTINEL" Bundle.listD)
def vx_at0 (own : String) (ic : Nat) (X : String) (names : List String) : List Cond := (Bundle.ownAtoms0 own ic X names).filter vx_no
def vx_atS (own : String) (ic : Nat) (X : String) (names : List String) : List Cond := (Bundle.ownAtoms own ic X names).filter vx_no
/-- a word that the tables alone decide, or a good one -/
def vx_ot (w : Cond) : Bool := w.onTables || goodWord w
theorem vx_ot_at {args a' : Array Value} {s U : State} {w : Cond} (hW : s.WarmedH U.vm) (hvm : s.vm = U.vm) (hg : vx_ot w = true) (h : w.before args s = true) : w.before a' U = true := by
  simp only [vx_ot, Bool.or_eq_true] at hg
  rcases hg with hg | hg
  · exact va_tabs hg hvm h
  · exact word_at hW (good_of_word hg) h
/-- a list's words: the good ones out of the method's own list, the others by premises of their own -/
theorem vx_hat {args : Array Value} {s : State} {L B : List Cond} (h1 : ∀ w ∈ L.filter goodWord, w.before args s = true) (h2 : ∀ w ∈ L.filter (fun w => !goodWord w), w ∈ B) (h3 : ∀ w ∈ B, w.before args s = true) : ∀ w ∈ L, w.before args s = true := by
  intro w hw
  by_cases g : goodWord w = true
  · exact h1 w (List.mem_filter.mpr ⟨hw, g⟩)
  · refine h3 w (h2 w (List.mem_filter.mpr ⟨hw, ?_⟩))
    show (!goodWord w) = true
    cases hgw : goodWord w
    · rfl
    · exact absurd hgw g
theorem vx_c {args : Array Value} {s : State} {w : Cond} {B : List Cond} (h : w.before args s = true) (t : ∀ w ∈ B, w.before args s = true) : ∀ w' ∈ w :: B, w'.before args s = true := fun w' h' => (List.mem_cons.mp h').elim (fun e => by rw [e]; exact h) (t w')
theorem vx_n {args : Array Value} {s : State} : ∀ w ∈ ([] : List Cond), w.before args s = true := fun _ h => nomatch h
theorem vx_own {args : Array Value} {s : State} {L : List Cond} (h1 : ∀ w ∈ L.filter vx_no, w.before args s = true)
    (hU : (Cond.isRef (.static Bundle.tN "UNASSIGNED_STACK" Bundle.steD)).before args s = true) (hN : (Cond.isRef (.static Bundle.tN "SUPPRESSED_SENTINEL" Bundle.listD)).before args s = true)
    (lU : (Cond.laysStatic Bundle.tN "UNASSIGNED_STACK" Bundle.steD).before args s = true) (lN : (Cond.laysStatic Bundle.tN "SUPPRESSED_SENTINEL" Bundle.listD).before args s = true) : ∀ w ∈ L, w.before args s = true := by
  intro w hw
  by_cases e1 : w = .isRef (.static Bundle.tN "UNASSIGNED_STACK" Bundle.steD)
  · rw [e1]; exact hU
  · by_cases e2 : w = .isRef (.static Bundle.tN "SUPPRESSED_SENTINEL" Bundle.listD)
    · rw [e2]; exact hN
    · by_cases e3 : w = .laysStatic Bundle.tN "UNASSIGNED_STACK" Bundle.steD
      · rw [e3]; exact lU
      · by_cases e4 : w = .laysStatic Bundle.tN "SUPPRESSED_SENTINEL" Bundle.listD
        · rw [e4]; exact lN
        · exact h1 w (List.mem_filter.mpr ⟨hw, by unfold vx_no; rw [decide_eq_true e1, decide_eq_true e2, decide_eq_true e3, decide_eq_true e4]; rfl⟩)
/-- where a static field lies, its class's statics cell in H -/
def vx_L (C n d : String) (A : Nat → Prop) (U : State) (H : Heap) : Prop := ∃ (c : ClassId) (k : Class) (i : Nat) (f : Field) (a : Nat) (cell : Cell), U.vm.findClass C = some c ∧ U.fieldFound? C n d = some (c, k, i, f) ∧ f.isStatic = true ∧ k.statics = some a ∧ H[a]? = some cell ∧ cell.vm.isStatics = true ∧ cell.cls = c ∧ f.slot < cell.slots.size ∧ k.staticTypes[f.slot]? = some f.type ∧ ¬ A a
theorem vx_L.moved {C n d : String} {A : Nat → Prop} {u U : State} {H : Heap} (hvm : u.vm.Alike U.vm) (h : vx_L C n d A u H) : vx_L C n d A U H := by
  obtain ⟨c, k, i, f, a, cell, h1, h2, h3, h4, h5, h6, h7, h8, h9, h10⟩ := h
  obtain ⟨k', hi', he⟩ := State.fieldFound?_setVm hvm h2
  exact ⟨c, k', i, f, a, cell, by rw [hvm.findClass]; exact h1, hi', h3, by rw [he]; exact h4, h5, h6, h7, h8, by rw [he]; exact h9, h10⟩
theorem vx_L.kept {C n d : String} {A : Nat → Prop} {U : State} {H H1 : Heap} (h : vx_L C n d A U H) (hq : ∀ a : Nat, a < H.size → ¬ A a → H1[a]? = H[a]?) : vx_L C n d A U H1 := by
  obtain ⟨c, k, i, f, a, cell, h1, h2, h3, h4, h5, h6, h7, h8, h9, h10⟩ := h
  exact ⟨c, k, i, f, a, cell, h1, h2, h3, h4, by rw [hq a (Array.getElem?_eq_some_iff.mp h5).1 h10]; exact h5, h6, h7, h8, h9, h10⟩
theorem vx_L.narrow {C n d : String} {A B : Nat → Prop} {U : State} {H : Heap} (h : vx_L C n d A U H) (hAB : ∀ q, B q → A q) : vx_L C n d B U H := by
  obtain ⟨c, k, i, f, a, cell, h1, h2, h3, h4, h5, h6, h7, h8, h9, h10⟩ := h
  exact ⟨c, k, i, f, a, cell, h1, h2, h3, h4, h5, h6, h7, h8, h9, fun z => h10 (hAB _ z)⟩
theorem vx_L.word {C n d : String} {A : Nat → Prop} {s : State} {args : Array Value} (h : vx_L C n d A s s.heap) : (Cond.laysStatic C n d).before args s = true := by
  obtain ⟨c, k, i, f, a, cell, h1, h2, h3, h4, h5, h6, h7, h8, h9, -⟩ := h
  show (Cond.laysStatic C n d).holds args s none s [] = true
  exact Cond.laysStatic_of h1 h2 h3 h4 h5 h6 h7 h8 h9
/-- .. and what it holds: null or some reference -/
def vx_Zq (C n d : String) (A : Nat → Prop) (U : State) (H : Heap) : Prop := va_Zq C n d A U H ∧ vx_L C n d A U H
theorem vx_Zq.moved {C n d : String} {A : Nat → Prop} {u U : State} {H : Heap} (hvm : u.vm.Alike U.vm) (h : vx_Zq C n d A u H) : vx_Zq C n d A U H := ⟨va_Zq.moved hvm h.1, vx_L.moved hvm h.2⟩
theorem vx_Zq.kept {C n d : String} {A : Nat → Prop} {U : State} {H H1 : Heap} (h : vx_Zq C n d A U H) (hq : ∀ a : Nat, a < H.size → ¬ A a → H1[a]? = H[a]?) : vx_Zq C n d A U H1 := ⟨va_Zq.kept h.1 hq, vx_L.kept h.2 hq⟩
theorem vx_Zq.narrow {C n d : String} {A B : Nat → Prop} {U : State} {H : Heap} (h : vx_Zq C n d A U H) (hAB : ∀ q, B q → A q) : vx_Zq C n d B U H := ⟨va_Zq.narrow h.1 hAB, vx_L.narrow h.2 hAB⟩
theorem vx_Zqof {args : Array Value} {s : State} {C n d : String} {A : Nat → Prop} (hl : (Cond.laysStatic C n d).before args s = true) (hini : (Cond.initialized C).before args s = true) (h : (Cond.isRef (.static C n d)).before args s = true) (hA : ∀ a : Nat, a < s.heap.size → ¬ A a) : vx_Zq C n d A s s.heap := by
  refine ⟨va_Zqof hl hini h hA, ?_⟩
  obtain ⟨c, k, i, f, a, cell, h1, h2, h3, h4, h5, h6, h7, h8, h9⟩ := Cond.laysStatic_spec hl
  exact ⟨c, k, i, f, a, cell, h1, h2, h3, h4, h5, h6, h7, h8, h9, hA a (Array.getElem?_eq_some_iff.mp h5).1⟩
theorem vx_isRef {C n d : String} {v : Value} {A : Nat → Prop} {s : State} {args : Array Value} (h : va_Z C n d v A s s.heap) (hv : v.isRef = true) : (Cond.isRef (.static C n d)).before args s = true := by
  obtain ⟨cf, kf, fi, f, a, cell, h1, h2, h3, h4, h5, h6, h7, -⟩ := h
  have he : (Term.static C n d).eval args s none [] s = some v := by
    simp [Term.eval, State.fieldNamed?, h1, h2, h4, h5, h6, h7]
  simp only [Cond.before, Cond.holds, Cond.value, he]
  cases v <;> simp_all [Value.isRef]
theorem vx_isRefq {C n d : String} {A : Nat → Prop} {s : State} {args : Array Value} (h : va_Zq C n d A s s.heap) : (Cond.isRef (.static C n d)).before args s = true := by
  rcases h with h | ⟨t, h⟩
  · exact vx_isRef h rfl
  · exact vx_isRef h rfl
/-- the same frame, seen from here: as if the method were called anew in this heap -/
theorem vx_rebase {T : State} (X : Stand p l e R s m args below meth c T locs cells slots) {R' : Room} (hf : R'.frames ≤ R.frames) (hl : R'.locals ≤ R.locals) (hc : cells + R'.cells ≤ R.cells) (hs : slots + R'.slots ≤ R.slots) :
    Stand p l e R' ((T.setVm s.vm).setFrames (.invoking m args :: below)) m args below meth c T [] 0 0 := by
  have htop : (T.setVm s.vm).topJava?.isSome := X.here.top
  have hF : ((T.setVm s.vm).setFrames (.invoking m args :: below)).frames = .invoking m args :: below := State.frames_setFrames _ (State.cur_lt_of_top htop)
  obtain ⟨g₀, hg0⟩ := Option.isSome_iff_exists.mp htop
  obtain ⟨r, hr⟩ := State.topJava?_eq_some.mp hg0
  have hl9 : e.platform.stackLimits (T.setVm s.vm).me = e.platform.stackLimits s.me := X.limits
  have hb9 : (T.setVm s.vm).me.stackBytes = s.me.stackBytes := X.bytes
  refine ⟨X.admits, X.cas, X.clock, hF, ?_, X.hears, X.method, X.code, X.here, X.tail, X.warmed, ?_, ?_, ?_⟩
  · have h := X.room
    have hU : ((T.setVm s.vm).setFrames (.invoking m args :: below)).localsInUse = s.localsInUse := by
      rw [State.localsInUse_invoking hF (meth := meth) (c := c) X.method X.code, State.localsInUse_invoking X.frames X.method X.code]
    simp only [State.hasRoom, Bool.and_eq_true, decide_eq_true_eq] at h ⊢
    obtain ⟨⟨⟨⟨h1, h2, h3, h4, h5, h6⟩, h7⟩, h8⟩, h9⟩ := h
    rw [X.frames, List.length_cons] at h2 h3
    have q1 := X.heapSize
    have q2 := X.used
    simp only [hF, hU, List.length_cons, State.stackLimits_setFrames, State.stackBytes_setFrames, hl9, hb9]
    refine ⟨⟨⟨⟨by omega, by omega, by omega, by omega, by omega, h6⟩, ?_⟩, ?_⟩, X.book⟩
    · show T.heap.size + R'.cells ≤ e.platform.maxCells
      omega
    · show T.slotsUsed + R'.slots ≤ e.platform.maxSlots
      omega
  · rw [State.stackLimits_setFrames]; rfl
  · rw [State.stackBytes_setFrames]; rfl
  · refine ⟨?_, Nat.le_refl _, Nat.le_refl _, ?_, ?_, fun a c9 h9 => ⟨c9, h9, rfl, rfl, fun _ _ => rfl⟩⟩
    · obtain ⟨t, ht, -⟩ := State.frames_cons hr
      show T.setVm s.vm = { ((T.setVm s.vm).setFrames (.invoking m args :: below)).setFrames (T.setVm s.vm).frames with heap := T.heap, slotsUsed := T.slotsUsed }
      rw [State.setFrames_setFrames, State.setFrames_self ht]
      rfl
    · show T.slotsUsed = T.slotsUsed + ((T.heap.toList.drop T.heap.size).map (·.slots.size)).sum
      rw [List.drop_eq_nil_of_le (Nat.le_of_eq Array.length_toList)]
      rfl
    · show ((T.heap.toList.drop T.heap.size).map (·.slots.size)).sum ≤ 0
      rw [List.drop_eq_nil_of_le (Nat.le_of_eq Array.length_toList)]
      exact Nat.le_refl _
/-- 'throw new E()': new; dup; invokespecial; athrow -/
theorem vx_throw0 {cc : ByteArray} {pc : Nat} (hexec : p.tables.exec = Jvm.exec) (hb : c.code = cc) (hl : l.stackTraces = false) {own cls : String} {names : List String} {ik ic mc ms : Nat} {A : Nat → Prop}
    (hown : s.vm.findClass own = some m.cls) (hcls : Bundle.fit cls = true) (hnames : ∀ n ∈ names, Bundle.fit n = true)
    (hk : (Cond.classLink own ik cls).before args s = true) (hini : (Cond.initialized cls).before args s = true) (hat : ∀ w ∈ vx_at0 own ic cls names, w.before args s = true)
    (hgood : ∀ w ∈ Cond.classLink own ik cls :: Cond.initialized cls :: vx_at0 own ic cls names, vx_ot w = true)
    (hU : vx_Zq Bundle.tN "UNASSIGNED_STACK" Bundle.steD A s s.heap) (hN : vx_Zq Bundle.tN "SUPPRESSED_SENTINEL" Bundle.listD A s s.heap) (hS : va_S A s.heap H locs) (hsize : ls.size = c.maxLocals)
    (d0 : decode cc pc = .ok (.new ik, 3)) (d3 : decode cc (pc + 3) = .ok (.dup, 1)) (d4 : decode cc (pc + 4) = .ok (.invokespecial ic, 3)) (d7 : decode cc (pc + 7) = .ok (.athrow, 1))
    (hout : ∀ x ∈ c.exceptionTable.toList, covers x (pc + 7) = false)
    (hRframes : names.length + 3 < R.frames) (hRlocals : (rest.map fun v => v.category).sum + (13 * (names.length + 1) + 42) ≤ R.locals) (hRcells : cells + 1 ≤ R.cells) (hRslots : slots + 6 ≤ R.slots) (hlocks : meth.locks = false)
    (hx : ∀ t : State, s.vm.Alike t.vm → H.size ≤ t.heap.size → (∀ q : Nat, q < H.size → t.heap[q]? = H[q]?) → XC cls s t)
    (hf : ∀ z ∈ locs, free z.base) (hc : cells + 1 ≤ mc) (hs : slots + 6 ≤ ms) :
    W p l e R s m args below meth c H locs cells slots (vx_MQ below Qc XC args s mc ms free) (F0 m pc ls rest) := by
  intro T hT X
  have htr : e.platform.stackTraces = false := (show e.platform.stackTraces = l.stackTraces by rw [X.admits.platform]).trans hl
  have Y := vx_rebase X (R' := { frames := R.frames, locals := R.locals, cells := 1, slots := 6 }) (Nat.le_refl _) (Nat.le_refl _) hRcells hRslots
  obtain ⟨s', hA⟩ : ∃ z, z = (T.setVm s.vm).setFrames (.invoking m args :: below) := ⟨_, rfl⟩
  rw [← hA] at Y
  have hvm : s'.vm = s.vm := by rw [hA]; rfl
  have hhp : s'.heap = H := by rw [hA]; exact hT
  have hW0 : s.WarmedH s'.vm := by rw [hvm]; exact State.WarmedH.refl s
  have hat' : ∀ w ∈ vx_at0 own ic cls names, w.before args s' = true := fun w hw => vx_ot_at hW0 hvm.symm (hgood w (List.mem_cons_of_mem _ (List.mem_cons_of_mem _ hw))) (hat w hw)
  have hk' : (Cond.classLink own ik cls).before args s' = true := vx_ot_at hW0 hvm.symm (hgood _ List.mem_cons_self) hk
  have hini' : (Cond.initialized cls).before args s' = true := vx_ot_at hW0 hvm.symm (hgood _ (List.mem_cons_of_mem _ List.mem_cons_self)) hini
  have hU' : vx_Zq Bundle.tN "UNASSIGNED_STACK" Bundle.steD A s' s'.heap := by rw [hhp]; exact vx_Zq.moved hW0.alike (hU.kept hS.2.1)
  have hN' : vx_Zq Bundle.tN "SUPPRESSED_SENTINEL" Bundle.listD A s' s'.heap := by rw [hhp]; exact vx_Zq.moved hW0.alike (hN.kept hS.2.1)
  have h : ∀ w ∈ Bundle.ownAtoms0 own ic cls names, w.before args s' = true := vx_own hat' (vx_isRefq hU'.1) (vx_isRefq hN'.1) hU'.2.word hN'.2.word
  have hown' : s'.vm.findClass own = some m.cls := by rw [hvm]; exact hown
  have hins : (Cond.instantiable cls 6).before args s' = true := h _ (by simp [Bundle.ownAtoms0])
  obtain ⟨vm₁, cX, kX, hfX, hkX, -, -, X₁, st1⟩ := Y.newCold hexec (own := own) (C := cls) (index := ik) (n := 6) hown' hk' hins hini'
    (g := F0 m pc ls rest) rfl (by rw [hb]; exact d0) (Nat.le_refl _) (Nat.le_refl _)
  generalize hT1 : (T.setVm vm₁).pushCell { cls := cX, slots := kX.instanceTypes.map defaultValue, vm := .none } = T1 at X₁ st1
  have hcat : (Value.ref T.heap.size).category = 1 := rfl
  have hcellA : T1.heap[T.heap.size]? = some (freshCell cX kX) := by rw [← hT1]; exact State.heap_pushCell_size _ _
  have d3' : decode c.code (pc + 3) = .ok (.dup, 1) := by rw [hb]; exact d3
  obtain ⟨U, hsteps, hrun, hend, hW, hsame, ce, hce, hO⟩ := X₁.ctorThrow0 hexec htr (own := own) (cls := cls) (names := names) (ic := ic) hown' hcls hnames h (fun x hx => nomatch hx) hfX hkX hcellA (by rw [hhp, hT]; exact Nat.le_refl _)
    (g := { method := m, pc := pc + 4, locals := ls, stack := .ref T.heap.size :: .ref T.heap.size :: rest, locked := none }) rfl hsize rfl rfl (rest := rest) rfl
    (by rw [hb]; exact d4) (by rw [hb]; exact d7) hout hRframes (by simp only [List.map_cons, List.sum_cons, hcat]; omega) hlocks
  obtain ⟨f1, f2⟩ := vx_frame hsame
  rw [hhp] at f1 f2
  have hWs : s.WarmedH U.vm := State.WarmedH.trans hW0 hW
  have hcl : s.vm.findClass cls = some ce.cls := by
    have h9 := hO.cls
    rw [hvm] at h9
    exact h9
  have hall : s.sameButNew ({ U with vm := s.vm } : State) locs mc ms := by
    subst hA
    obtain ⟨e1, e2⟩ := hsame
    rw [State.setFrames_setFrames] at e1
    have h2 : (T.setVm s.vm).sameButNew ({ U with vm := s.vm } : State) [] (0 + 1) (0 + 6) := ⟨e1, e2⟩
    have h3 := X.same.trans h2
    rw [List.append_nil] at h3
    exact h3.mono hc hs
  refine ⟨U, ?_, .threw T.heap.size, hrun, hend, Or.inr ⟨T.heap.size, rfl, cls, ce, locs, hx U hWs.alike f1 (fun q hq => f2 q hq (fun z hz => nomatch hz)), hce, hO.vm, hcl, hWs, hall, hf⟩⟩
  refine st1 _ ?_
  show Steps p.tables e below (T1.setTop { method := m, pc := pc + 3, locals := ls, stack := .ref T.heap.size :: rest, locked := none }) _
  jvm_step X₁.here [X₁.here.top, hexec, d3', Value.category]
  exact hsteps
/-- 'throw new E("text")': new; dup; ldc; invokespecial; athrow -/
theorem vx_throwS {cc : ByteArray} {pc : Nat} (hexec : p.tables.exec = Jvm.exec) (hb : c.code = cc) (hl : l.stackTraces = false) {own cls text : String} {names : List String} {ik is ic mc ms sa : Nat} {A : Nat → Prop}
    (hown : s.vm.findClass own = some m.cls) (hcls : Bundle.fit cls = true) (hnames : ∀ n ∈ names, Bundle.fit n = true)
    (hk : (Cond.classLink own ik cls).before args s = true) (hini : (Cond.initialized cls).before args s = true) (hstr : vk_R own is text sa s) (hat : ∀ w ∈ vx_atS own ic cls names, w.before args s = true)
    (hgood : ∀ w ∈ Cond.classLink own ik cls :: Cond.initialized cls :: vx_atS own ic cls names, vx_ot w = true)
    (hU : vx_Zq Bundle.tN "UNASSIGNED_STACK" Bundle.steD A s s.heap) (hN : vx_Zq Bundle.tN "SUPPRESSED_SENTINEL" Bundle.listD A s s.heap) (hS : va_S A s.heap H locs) (hsize : ls.size = c.maxLocals)
    (d0 : decode cc pc = .ok (.new ik, 3)) (d3 : decode cc (pc + 3) = .ok (.dup, 1)) (d4 : decode cc (pc + 4) = .ok (.ldc is, 2)) (d6 : decode cc (pc + 6) = .ok (.invokespecial ic, 3)) (d9 : decode cc (pc + 9) = .ok (.athrow, 1))
    (hout : ∀ x ∈ c.exceptionTable.toList, covers x (pc + 9) = false)
    (hRframes : names.length + 3 < R.frames) (hRlocals : (rest.map fun v => v.category).sum + (13 * (names.length + 1) + 43) ≤ R.locals) (hRcells : cells + 1 ≤ R.cells) (hRslots : slots + 6 ≤ R.slots) (hlocks : meth.locks = false)
    (hx : ∀ t : State, s.vm.Alike t.vm → H.size ≤ t.heap.size → (∀ q : Nat, q < H.size → t.heap[q]? = H[q]?) → XC cls s t)
    (hf : ∀ z ∈ locs, free z.base) (hc : cells + 1 ≤ mc) (hs : slots + 6 ≤ ms) :
    W p l e R s m args below meth c H locs cells slots (vx_MQ below Qc XC args s mc ms free) (F0 m pc ls rest) := by
  intro T hT X
  have htr : e.platform.stackTraces = false := (show e.platform.stackTraces = l.stackTraces by rw [X.admits.platform]).trans hl
  have Y := vx_rebase X (R' := { frames := R.frames, locals := R.locals, cells := 1, slots := 6 }) (Nat.le_refl _) (Nat.le_refl _) hRcells hRslots
  obtain ⟨s', hA⟩ : ∃ z, z = (T.setVm s.vm).setFrames (.invoking m args :: below) := ⟨_, rfl⟩
  rw [← hA] at Y
  have hvm : s'.vm = s.vm := by rw [hA]; rfl
  have hhp : s'.heap = H := by rw [hA]; exact hT
  have hW0 : s.WarmedH s'.vm := by rw [hvm]; exact State.WarmedH.refl s
  have hat' : ∀ w ∈ vx_atS own ic cls names, w.before args s' = true := fun w hw => vx_ot_at hW0 hvm.symm (hgood w (List.mem_cons_of_mem _ (List.mem_cons_of_mem _ hw))) (hat w hw)
  have hk' : (Cond.classLink own ik cls).before args s' = true := vx_ot_at hW0 hvm.symm (hgood _ List.mem_cons_self) hk
  have hini' : (Cond.initialized cls).before args s' = true := vx_ot_at hW0 hvm.symm (hgood _ (List.mem_cons_of_mem _ List.mem_cons_self)) hini
  have hU' : vx_Zq Bundle.tN "UNASSIGNED_STACK" Bundle.steD A s' s'.heap := by rw [hhp]; exact vx_Zq.moved hW0.alike (hU.kept hS.2.1)
  have hN' : vx_Zq Bundle.tN "SUPPRESSED_SENTINEL" Bundle.listD A s' s'.heap := by rw [hhp]; exact vx_Zq.moved hW0.alike (hN.kept hS.2.1)
  have h : ∀ w ∈ Bundle.ownAtoms own ic cls names, w.before args s' = true := vx_own hat' (vx_isRefq hU'.1) (vx_isRefq hN'.1) hU'.2.word hN'.2.word
  have hown' : s'.vm.findClass own = some m.cls := by rw [hvm]; exact hown
  have hins : (Cond.instantiable cls 6).before args s' = true := h _ (by simp [Bundle.ownAtoms])
  obtain ⟨vm₁, cX, kX, hfX, hkX, -, -, X₁, st1⟩ := Y.newCold hexec (own := own) (C := cls) (index := ik) (n := 6) hown' hk' hins hini'
    (g := F0 m pc ls rest) rfl (by rw [hb]; exact d0) (Nat.le_refl _) (Nat.le_refl _)
  generalize hT1 : (T.setVm vm₁).pushCell { cls := cX, slots := kX.instanceTypes.map defaultValue, vm := .none } = T1 at X₁ st1
  have hcat : (Value.ref T.heap.size).category = 1 := rfl
  have hcellA : T1.heap[T.heap.size]? = some (freshCell cX kX) := by rw [← hT1]; exact State.heap_pushCell_size _ _
  have d3' : decode c.code (pc + 3) = .ok (.dup, 1) := by rw [hb]; exact d3
  have d4' : decode c.code (pc + 4) = .ok (.ldc is, 2) := by rw [hb]; exact d4
  have hstr' : vk_R own is text sa s' := vk_R.warm hW0 hstr
  obtain ⟨U, hsteps, hrun, hend, hW, hsame, ce, hce, hO⟩ := X₁.ctorThrowS hexec htr (own := own) (cls := cls) (names := names) (ic := ic) hown' hcls hnames h (fun x hx => nomatch hx) hfX hkX hcellA (by rw [hhp, hT]; exact Nat.le_refl _) (msg := .ref sa) rfl
    (g := { method := m, pc := pc + 6, locals := ls, stack := .ref sa :: .ref T.heap.size :: .ref T.heap.size :: rest, locked := none }) rfl hsize rfl rfl (rest := rest) rfl
    (by rw [hb]; exact d6) (by rw [hb]; exact d9) hout hRframes (by simp only [List.map_cons, List.sum_cons, hcat]; omega) hlocks
  obtain ⟨f1, f2⟩ := vx_frame hsame
  rw [hhp] at f1 f2
  have hWs : s.WarmedH U.vm := State.WarmedH.trans hW0 hW
  have hcl : s.vm.findClass cls = some ce.cls := by
    have h9 := hO.cls
    rw [hvm] at h9
    exact h9
  have hall : s.sameButNew ({ U with vm := s.vm } : State) locs mc ms := by
    subst hA
    obtain ⟨e1, e2⟩ := hsame
    rw [State.setFrames_setFrames] at e1
    have h2 : (T.setVm s.vm).sameButNew ({ U with vm := s.vm } : State) [] (0 + 1) (0 + 6) := ⟨e1, e2⟩
    have h3 := X.same.trans h2
    rw [List.append_nil] at h3
    exact h3.mono hc hs
  refine ⟨U, ?_, .threw T.heap.size, hrun, hend, Or.inr ⟨T.heap.size, rfl, cls, ce, locs, hx U hWs.alike f1 (fun q hq => f2 q hq (fun z hz => nomatch hz)), hce, hO.vm, hcl, hWs, hall, hf⟩⟩
  refine st1 _ ?_
  show Steps p.tables e below (T1.setTop { method := m, pc := pc + 3, locals := ls, stack := .ref T.heap.size :: rest, locked := none }) _
  jvm_step X₁.here [X₁.here.top, hexec, d3', Value.category]
  exact X₁.ldcString hexec (own := own) (text := text) (index := is) (a := sa) hown' hstr'.1 hstr'.2
    (g := { method := m, pc := pc + 4, locals := ls, stack := .ref T.heap.size :: .ref T.heap.size :: rest, locked := none }) rfl d4' _ hsteps
/-- 'throw new E("text")', the text by a wide index -/
theorem vx_throwSW {cc : ByteArray} {pc : Nat} (hexec : p.tables.exec = Jvm.exec) (hb : c.code = cc) (hl : l.stackTraces = false) {own cls text : String} {names : List String} {ik is ic mc ms sa : Nat} {A : Nat → Prop}
    (hown : s.vm.findClass own = some m.cls) (hcls : Bundle.fit cls = true) (hnames : ∀ n ∈ names, Bundle.fit n = true)
    (hk : (Cond.classLink own ik cls).before args s = true) (hini : (Cond.initialized cls).before args s = true) (hstr : vk_R own is text sa s) (hat : ∀ w ∈ vx_atS own ic cls names, w.before args s = true)
    (hgood : ∀ w ∈ Cond.classLink own ik cls :: Cond.initialized cls :: vx_atS own ic cls names, vx_ot w = true)
    (hU : vx_Zq Bundle.tN "UNASSIGNED_STACK" Bundle.steD A s s.heap) (hN : vx_Zq Bundle.tN "SUPPRESSED_SENTINEL" Bundle.listD A s s.heap) (hS : va_S A s.heap H locs) (hsize : ls.size = c.maxLocals)
    (d0 : decode cc pc = .ok (.new ik, 3)) (d3 : decode cc (pc + 3) = .ok (.dup, 1)) (d4 : decode cc (pc + 4) = .ok (.ldc_w is, 3)) (d7 : decode cc (pc + 7) = .ok (.invokespecial ic, 3)) (d10 : decode cc (pc + 10) = .ok (.athrow, 1))
    (hout : ∀ x ∈ c.exceptionTable.toList, covers x (pc + 10) = false)
    (hRframes : names.length + 3 < R.frames) (hRlocals : (rest.map fun v => v.category).sum + (13 * (names.length + 1) + 43) ≤ R.locals) (hRcells : cells + 1 ≤ R.cells) (hRslots : slots + 6 ≤ R.slots) (hlocks : meth.locks = false)
    (hx : ∀ t : State, s.vm.Alike t.vm → H.size ≤ t.heap.size → (∀ q : Nat, q < H.size → t.heap[q]? = H[q]?) → XC cls s t)
    (hf : ∀ z ∈ locs, free z.base) (hc : cells + 1 ≤ mc) (hs : slots + 6 ≤ ms) :
    W p l e R s m args below meth c H locs cells slots (vx_MQ below Qc XC args s mc ms free) (F0 m pc ls rest) := by
  intro T hT X
  have htr : e.platform.stackTraces = false := (show e.platform.stackTraces = l.stackTraces by rw [X.admits.platform]).trans hl
  have Y := vx_rebase X (R' := { frames := R.frames, locals := R.locals, cells := 1, slots := 6 }) (Nat.le_refl _) (Nat.le_refl _) hRcells hRslots
  obtain ⟨s', hA⟩ : ∃ z, z = (T.setVm s.vm).setFrames (.invoking m args :: below) := ⟨_, rfl⟩
  rw [← hA] at Y
  have hvm : s'.vm = s.vm := by rw [hA]; rfl
  have hhp : s'.heap = H := by rw [hA]; exact hT
  have hW0 : s.WarmedH s'.vm := by rw [hvm]; exact State.WarmedH.refl s
  have hat' : ∀ w ∈ vx_atS own ic cls names, w.before args s' = true := fun w hw => vx_ot_at hW0 hvm.symm (hgood w (List.mem_cons_of_mem _ (List.mem_cons_of_mem _ hw))) (hat w hw)
  have hk' : (Cond.classLink own ik cls).before args s' = true := vx_ot_at hW0 hvm.symm (hgood _ List.mem_cons_self) hk
  have hini' : (Cond.initialized cls).before args s' = true := vx_ot_at hW0 hvm.symm (hgood _ (List.mem_cons_of_mem _ List.mem_cons_self)) hini
  have hU' : vx_Zq Bundle.tN "UNASSIGNED_STACK" Bundle.steD A s' s'.heap := by rw [hhp]; exact vx_Zq.moved hW0.alike (hU.kept hS.2.1)
  have hN' : vx_Zq Bundle.tN "SUPPRESSED_SENTINEL" Bundle.listD A s' s'.heap := by rw [hhp]; exact vx_Zq.moved hW0.alike (hN.kept hS.2.1)
  have h : ∀ w ∈ Bundle.ownAtoms own ic cls names, w.before args s' = true := vx_own hat' (vx_isRefq hU'.1) (vx_isRefq hN'.1) hU'.2.word hN'.2.word
  have hown' : s'.vm.findClass own = some m.cls := by rw [hvm]; exact hown
  have hins : (Cond.instantiable cls 6).before args s' = true := h _ (by simp [Bundle.ownAtoms])
  obtain ⟨vm₁, cX, kX, hfX, hkX, -, -, X₁, st1⟩ := Y.newCold hexec (own := own) (C := cls) (index := ik) (n := 6) hown' hk' hins hini'
    (g := F0 m pc ls rest) rfl (by rw [hb]; exact d0) (Nat.le_refl _) (Nat.le_refl _)
  generalize hT1 : (T.setVm vm₁).pushCell { cls := cX, slots := kX.instanceTypes.map defaultValue, vm := .none } = T1 at X₁ st1
  have hcat : (Value.ref T.heap.size).category = 1 := rfl
  have hcellA : T1.heap[T.heap.size]? = some (freshCell cX kX) := by rw [← hT1]; exact State.heap_pushCell_size _ _
  have d3' : decode c.code (pc + 3) = .ok (.dup, 1) := by rw [hb]; exact d3
  have d4' : decode c.code (pc + 4) = .ok (.ldc_w is, 3) := by rw [hb]; exact d4
  have hstr' : vk_R own is text sa s' := vk_R.warm hW0 hstr
  obtain ⟨U, hsteps, hrun, hend, hW, hsame, ce, hce, hO⟩ := X₁.ctorThrowS hexec htr (own := own) (cls := cls) (names := names) (ic := ic) hown' hcls hnames h (fun x hx => nomatch hx) hfX hkX hcellA (by rw [hhp, hT]; exact Nat.le_refl _) (msg := .ref sa) rfl
    (g := { method := m, pc := pc + 7, locals := ls, stack := .ref sa :: .ref T.heap.size :: .ref T.heap.size :: rest, locked := none }) rfl hsize rfl rfl (rest := rest) rfl
    (by rw [hb]; exact d7) (by rw [hb]; exact d10) hout hRframes (by simp only [List.map_cons, List.sum_cons, hcat]; omega) hlocks
  obtain ⟨f1, f2⟩ := vx_frame hsame
  rw [hhp] at f1 f2
  have hWs : s.WarmedH U.vm := State.WarmedH.trans hW0 hW
  have hcl : s.vm.findClass cls = some ce.cls := by
    have h9 := hO.cls
    rw [hvm] at h9
    exact h9
  have hall : s.sameButNew ({ U with vm := s.vm } : State) locs mc ms := by
    subst hA
    obtain ⟨e1, e2⟩ := hsame
    rw [State.setFrames_setFrames] at e1
    have h2 : (T.setVm s.vm).sameButNew ({ U with vm := s.vm } : State) [] (0 + 1) (0 + 6) := ⟨e1, e2⟩
    have h3 := X.same.trans h2
    rw [List.append_nil] at h3
    exact h3.mono hc hs
  refine ⟨U, ?_, .threw T.heap.size, hrun, hend, Or.inr ⟨T.heap.size, rfl, cls, ce, locs, hx U hWs.alike f1 (fun q hq => f2 q hq (fun z hz => nomatch hz)), hce, hO.vm, hcl, hWs, hall, hf⟩⟩
  refine st1 _ ?_
  show Steps p.tables e below (T1.setTop { method := m, pc := pc + 3, locals := ls, stack := .ref T.heap.size :: rest, locked := none }) _
  jvm_step X₁.here [X₁.here.top, hexec, d3', Value.category]
  exact X₁.ldcStringW hexec (own := own) (text := text) (index := is) (a := sa) hown' hstr'.1 hstr'.2
    (g := { method := m, pc := pc + 4, locals := ls, stack := .ref T.heap.size :: .ref T.heap.size :: rest, locked := none }) rfl d4' _ hsteps
end Ends
section Bodies
variable {l : Launch}
theorem vx_ofW {y : MethodName} {ws ws' : List Cond} {rm : Room} {Pc : Array Value → State → Prop} {Qc : Array Value → State → Outcome → State → Prop} {XC : String → State → State → Prop} {mc ms : Nat} {free : Addr → Prop} {cc : ByteArray} {maxL : Nat} {ret : Option FieldType}
    (hy : plainName y.cls = true) (hw : ws = Cond.code y cc maxL ret :: ws')
    (body : ∀ p e s m args below meth c s₁, BodyLoose p l y (headSpec ws rm) cc maxL ret e s m args below meth c s₁ → c.maxLocals = maxL → (∀ x ∈ c.exceptionTable.toList, False) → Pc args s →
      W p l e (headSpec ws rm).room s m args below meth c s.heap [] 0 0 (vx_MQ below Qc XC args s mc ms free) (entryFrame m args maxL)) : vx_Met l y ws rm Pc Qc XC mc ms free := by
  refine MetFree.of_bodyS (code := cc) (maxLocals := maxL) (ret := ret) hy ?_ ?_
  · intro args s m h hn
    obtain ⟨meth, c, h1, h2, h3, h4, h5, h6, -, -⟩ := Cond.code_spec hn (atoms_spec (ws := ws) h _ (by rw [hw]; exact List.mem_cons_self))
    exact ⟨meth, c, h1, h2, h3, h4, h5, h6⟩
  · intro p e s m args below meth c s₁ B hml hP _
    have hh0 : s₁.heap = s.heap := by rw [B.state]; rfl
    have ht : ∀ x ∈ c.exceptionTable.toList, False := by
      obtain ⟨meth9, c9, h1, h2, -, -, -, -, h7, -⟩ := Cond.code_spec B.named (atoms_spec (ws := ws) B.pre _ (by rw [hw]; exact List.mem_cons_self))
      cases Option.some.inj (h1.symm.trans B.method)
      cases Option.some.inj (h2.symm.trans (Stand.of_body B).code)
      intro x hx
      rw [Array.isEmpty_iff.mp h7] at hx
      cases hx
    obtain ⟨t, a1, o, b1, b2, b3⟩ := body p e s m args below meth c s₁ B hml ht hP s₁ hh0 (Stand.of_body B)
    exact ⟨t, o, a1, b1, b2, b3⟩
/-- the table of a body with handlers -/
theorem vx_table {p : Program} {x y : MethodName} {S : Spec} {cc bytes : ByteArray} {maxL maxL' : Nat} {ret ret' : Option FieldType} {e : Env} {s s₁ : State} {m : MethodId} {args : Array Value} {below : List Frame} {meth : Method} {c : Code} {hh : List (Nat × Nat × Nat × Nat)}
    (B : BodyLoose p l y S cc maxL ret e s m args below meth c s₁) (h : (Cond.codeWith y bytes maxL' ret' hh).before args s = true) : c.exceptionTable.toList = tableOf hh := by
  obtain ⟨m9, meth9, c9, hn9, h1, h2, -, -, h6, -⟩ := Cond.codeWith_spec h
  cases Option.some.inj (hn9.symm.trans B.named)
  cases Option.some.inj (h1.symm.trans B.method)
  cases Option.some.inj (h2.symm.trans (Stand.of_body B).code)
  rw [← h6, table_eq]
end Bodies
end VXA
/-! ===== END ===== -/
/-! ===== BEGIN a static call of a method with an exception table ===== -/
section VXS
variable {p : Program} {l : Launch} {e : Env} {R : Room} {s : State} {m : MethodId} {args : Array Value} {below : List Frame} {meth : Method} {c : Code} {T : State} {H : Heap} {locs : List Loc} {cells slots : Nat}
abbrev vx_CSW (R : Room) (s : State) (args : Array Value) (own : String) (index : Nat) (y : MethodName) (bytes : ByteArray) (maxL : Nat) (ret : Option FieldType) (hh : List (Nat × Nat × Nat × Nat)) (ws : List Cond) (rm : Room) (mc ms n : Nat) : Prop :=
  (rm.cells = mc ∧ rm.slots = ms ∧ rm.frames + 1 ≤ R.frames ∧ 8 + (maxL + 11) + rm.locals ≤ R.locals ∧ (∀ w ∈ ws, ∀ (a' : Array Value) (U : State), s.WarmedH U.vm → w.before a' U = true) ∧ Cond.codeWith y bytes maxL ret hh ∈ ws) ∧
  (Cond.codeWith y bytes maxL ret hh).before args s = true ∧ (Cond.initialized y.cls).before args s = true ∧ (y.cls ≠ "java/lang/invoke/MethodHandle" ∧ y.cls ≠ "java/lang/invoke/VarHandle") ∧
  (∀ sig, parseMethodDescriptor y.desc = some sig → n = sig.parameters.length) ∧ (Cond.methodLink own index y).before args s = true ∧ (Cond.static y).before args s = true
theorem vx_cwSW {own : String} {index maxL mc ms : Nat} {y : MethodName} {bytes : ByteArray} {ret : Option FieldType} {hh : List (Nat × Nat × Nat × Nat)} {Ts ws ws' : List Cond} {rm : Room} (n : Nat) (ht : ∀ w ∈ Ts, w.before args s = true) (hT : GoodIn Ts (va_wsS own index y ws)) (hw : ws = Cond.codeWith y bytes maxL ret hh :: ws') (hrc : rm.cells = mc) (hrs : rm.slots = ms)
    (hd : y.cls ≠ "java/lang/invoke/MethodHandle" ∧ y.cls ≠ "java/lang/invoke/VarHandle" ∧ (parseMethodDescriptor y.desc).map (fun d => d.parameters.length) = some n) (hR : rm.frames + 1 ≤ R.frames ∧ 8 + (maxL + 11) + rm.locals ≤ R.locals) :
    vx_CSW R s args own index y bytes maxL ret hh ws rm mc ms n := by
  have ok : ∀ w ∈ va_wsS own index y ws, w.before args s = true := fun w h => ht w (hT w h).1
  have hG : GoodIn Ts ws := fun w h => hT w (by unfold va_wsS; exact List.mem_append_right _ h)
  have hc : Cond.codeWith y bytes maxL ret hh ∈ ws := by rw [hw]; exact List.mem_cons_self
  refine ⟨⟨hrc, hrs, hR.1, hR.2, pay_in ht hG, hc⟩, ht _ (hG _ hc).1, ok _ (by simp [va_wsS]), ⟨hd.1, hd.2.1⟩, fun sig h => ?_, ok _ (by simp [va_wsS]), ok _ (by simp [va_wsS])⟩
  have h2 := hd.2.2
  rw [h] at h2
  exact (Option.some.inj h2).symm
theorem vx_callSW (X : Stand p l e R s m args below meth c T locs cells slots) (hexec : p.tables.exec = Jvm.exec) {own : String} {index : Nat} {y : MethodName} {bytes : ByteArray} {maxL : Nat} {ret : Option FieldType} {hh : List (Nat × Nat × Nat × Nat)}
    (hown : s.vm.findClass own = some m.cls) (hlink : (Cond.methodLink own index y).before args s = true) (hstat : (Cond.static y).before args s = true) (hinit : (Cond.initialized y.cls).before args s = true)
    (hcode : (Cond.codeWith y bytes maxL ret hh).before args s = true) (hy : y.cls ≠ "java/lang/invoke/MethodHandle" ∧ y.cls ≠ "java/lang/invoke/VarHandle")
    {W9 : Nat} {Pre : Pt → Array Value → Prop} {Post : Pt → Array Value → Option Value → Pt → Prop} (hK : Back l R p e below s args y 3 W9 Pre Post)
    {g : JFrame} (hg : g.method = m) (hsize : g.locals.size = c.maxLocals) {argsL rest : List Value} (hlen : ∀ sig, parseMethodDescriptor y.desc = some sig → argsL.length = sig.parameters.length)
    (hstack : g.stack = argsL.reverse ++ rest) (hW : 2 * g.monitorRoom + (rest.map fun v => v.category).sum ≤ W9) (hdg : decode c.code g.pc = .ok (.invokestatic index, 3))
    (hpre : ∀ vm₁, s.WarmedH vm₁ → Pre ⟨T.setVm vm₁, locs, cells, slots⟩ argsL.toArray) :
    ∃ (v : Option Value) (vm₁ : Vm) (B : Pt), s.WarmedH vm₁ ∧ Stand p l e R s m args below meth c B.U B.locs B.cells B.slots ∧ Post ⟨T.setVm vm₁, locs, cells, slots⟩ argsL.toArray v B ∧
      ∀ target, Steps p.tables e below (B.U.setTop { g with pc := g.pc + 3, stack := v.toList ++ rest }) target → Steps p.tables e below (T.setTop g) target := by
  obtain ⟨mk, methM, cM, hnamed, hmethM, -, -, -, -, -, -, hsigM⟩ := Cond.codeWith_spec hcode
  have hstatic : methM.isStatic = true := Cond.static_spec hnamed hmethM hstat
  obtain ⟨kP, hkP, -⟩ := className_of_methodNamed hnamed
  have hinitP : kP.init = .initialized := Cond.initialized_spec (findClass_of_methodNamed hnamed) hkP hinit
  obtain ⟨vm₁, X₁, hstep₁⟩ := X.invokestatic hexec hown hlink hnamed hmethM hstatic hkP hinitP hy (g := g) hg (argsL := argsL) (rest := rest) (hlen _ hsigM) hstack hdg
  obtain ⟨v, B, X', hpost, hsteps⟩ := hK m meth c ⟨T.setVm vm₁, locs, cells, slots⟩ { g with stack := rest } (.invokestatic index) mk argsL.toArray X₁ hg hsize hdg hW (X₁.named hnamed) (hpre vm₁ X₁.warmed)
  exact ⟨v, vm₁, B, X₁.warmed, X', hpost, fun target h => hstep₁ _ fun acts => by rw [doInvoke_state]; exact hsteps.trans h⟩
theorem vx_runSW {y : MethodName} {bytes cc : ByteArray} {maxL nL mc ms n index : Nat} {ret : Option FieldType} {hh : List (Nat × Nat × Nat × Nat)} {ws : List Cond} {rm : Room} {Pc : Array Value → State → Prop} {Qc : Array Value → State → Outcome → State → Prop} {free : Addr → Prop} {Ts : List Cond} {own : String} {As rest : List Value} {g : JFrame}
    (S : CallFix p m c cc nL s args Ts own) (hM : Met l y ws rm Pc Qc mc ms free) (cw : vx_CSW R s args own index y bytes maxL ret hh ws rm mc ms n) (hp : PreS s H Pc As)
    (hg : g.method = m) (hn : As.length = n) (hsize : g.locals.size = nL) (hstack : g.stack = As.reverse ++ rest) (hW : 2 * g.monitorRoom + (rest.map fun v => v.category).sum ≤ 8) (hdg : decode cc g.pc = .ok (.invokestatic index, 3)) (hf : cells + mc ≤ R.cells ∧ slots + ms ≤ R.slots) :
    va_Run p l e R s m args below meth c H locs cells slots mc ms g rest (Qc As.toArray) (free) := by
  obtain ⟨⟨hrc, hrs, hfr, hlo, hws, hcw⟩, hcode, hini, hy, hlen, hl, hstt⟩ := cw
  have hK : Back l R p e below s args y 3 8 (PreOf R mc ms Pc) (PostOf Qc mc ms free) := va_backW (hh := hh) (bytes := bytes) (maxL := maxL) (ret := ret) hM hp.1 hrc hrs hfr hlo hws hcw (fun a' U hW => word_at hW (Or.inl (by first | rfl | simp [Cond.onTables, Cond.keeps, Cond.steady])) hini)
  obtain ⟨hx, hb, hml, ho, -⟩ := S
  intro T hT X
  obtain ⟨v, vm₁, ⟨U', l2, c2, s2⟩, hW₁, X', ⟨g', mk, t, L, e1, e2, hq, h1, hL, h2, h3⟩, st⟩ := vx_callSW X hx (hh := hh) (bytes := bytes) (maxL := maxL) (ret := ret) ho hl hstt hini hcode hy hK hg (hsize.trans hml.symm) (argsL := As) (rest := rest) (fun sig h => hn.trans (hlen sig h)) hstack hW (by rw [hb]; exact hdg)
    (fun vm₁ hW₁ => ⟨hf.1, hf.2, hp.2 (T.setVm vm₁) hT hW₁⟩)
  dsimp only [Pt.U, Pt.locs, Pt.cells, Pt.slots] at X' e1 e2 h1 h2 h3 st
  subst h1; subst h2; subst h3
  exact ⟨v, (T.setVm vm₁).calling g' mk As.toArray, t, U', L, hT, X', hL, e1, e2, hq, st⟩
/-- a thing of a world lies in the heap -/
theorem vx_lt {D : va_G} {cl : List vw_C} {ws : va_W} {H1 : Heap} (h : va_P D cl ws H1) {k : Nat} {q : Nat × va_E} (hk : ws[k]? = some q) : q.1 < H1.size := (h k q hk).lt
end VXS
/-! ===== END ===== -/
/-! ===== BEGIN methods with a table of their own: called by a name, returning or throwing ===== -/
section VXH
/-! vx_backW, vx_callVX, vx_callSX, vx_callVW, vx_runVW, vx_runVX, vx_runSX, vx_ofWH follow the same proofs as their sisters above (Free/Laws.lean, Shelf42/LK1.lean); vx_outP calls Shelf42/NT130.lean (outThrough). -/
section
variable {l : Launch} {R : Room} {p : Program} {e : Env} {below : List Frame} {s : State} {sargs : Array Value} {y : MethodName} {len W9 : Nat}
theorem vx_backW {ws : List Cond} {rm : Room} {Pc : Array Value → State → Prop} {Qc : Array Value → State → Outcome → State → Prop} {XC : String → State → State → Prop} {mc ms : Nat} {free : Addr → Prop} {bytes : ByteArray} {maxL : Nat} {ret : Option FieldType} {hh : List (Nat × Nat × Nat × Nat)}
    (hM : vx_Met l y ws rm Pc Qc XC mc ms free) (hblind : FrameBlind Pc) (hrc : rm.cells = mc) (hrs : rm.slots = ms)
    (hframes : rm.frames + 1 ≤ R.frames) (hlocals : W9 + (maxL + 11) + rm.locals ≤ R.locals)
    (hws : ∀ w ∈ ws, ∀ a' U, s.WarmedH U.vm → w.before a' U = true) (hcode : Cond.codeWith y bytes maxL ret hh ∈ ws) (hinit : ∀ a' U, s.WarmedH U.vm → (Cond.initialized y.cls).before a' U = true) :
    vx_Back l R p e below s sargs y len W9 (PreOf R mc ms Pc) (PostOf Qc mc ms free) (vx_Post XC mc ms free) := by
  intro m meth c A g ig mk a X hg hsize hdg hW hn hp
  have h1 : (headSpec ws rm).pre.before a A.U = true := atoms_intro fun w hw => hws w hw _ _ X.warmed
  have h2 : (Cond.codeWith y bytes maxL ret hh).before a A.U = true := hws _ hcode _ _ X.warmed
  have h3 : (Cond.initialized y.cls).before a A.U = true := hinit _ _ X.warmed
  have h4 : A.cells + (headSpec ws rm).room.cells ≤ R.cells := by rw [show (headSpec ws rm).room.cells = mc from hrc]; exact hp.1
  have h5 : A.slots + (headSpec ws rm).room.slots ≤ R.slots := by rw [show (headSpec ws rm).room.slots = ms from hrs]; exact hp.2.1
  have hPc : Pc a (A.U.calling g mk a) := hblind _ _ _ _ hp.2.2
  obtain ⟨U, Ls, c0, s0⟩ := A
  dsimp only [Pt.U, Pt.locs, Pt.cells, Pt.slots] at h1 h2 h3 h4 h5 X hn hPc ⊢
  obtain ⟨m9, methY, cY, hn9, hmY, hcY, -, hlY, -⟩ := Cond.codeWith_spec h2
  cases Option.some.inj (hn9.symm.trans hn)
  obtain ⟨kY, hkY, -⟩ := className_of_methodNamed hn
  have hinitY : kY.init = .initialized := Cond.initialized_spec (findClass_of_methodNamed hn) hkY h3
  have h : At U g.method c below := by rw [hg]; exact X.here
  have hlocals9 : W9 + (maxL + 11) + (headSpec ws rm).room.locals ≤ R.locals := hlocals
  have happ : (headSpec ws rm).appliesLoose y e.platform (U.calling g mk a) = true :=
    Spec.appliesLoose_calling (g := g) h hdg hn hkY hinitY
      (X.room_calling (g := g) (R' := (headSpec ws rm).room) hsize hmY hcY hframes (by rw [hlY]; omega) h4 h5) h1
  obtain ⟨mid, hmid⟩ := h.above
  have hfr : (U.setTop g).frames = (.java g :: mid) ++ below := by rw [State.frames_setTop' g h.top, hmid]; rfl
  obtain ⟨o, s₂, hsteps, -, hend, hq⟩ := Steps.callFree hM p X.admits X.cas X.clock (acts := []) hfr happ hPc trivial
  have hq' : vx_Q Qc XC mc ms free a (U.calling g mk a) o s₂ := hq
  rw [State.frames_setTop' g h.top] at hend
  obtain ⟨g₀, hg0⟩ := Option.isSome_iff_exists.mp h.top
  obtain ⟨r, hr⟩ := State.topJava?_eq_some.mp hg0
  have hr' : (({ U with heap := s₂.heap, slotsUsed := s₂.slotsUsed } : State).setVm s₂.vm).frames = .java g₀ :: r := hr
  rcases hq' with ⟨hqc, L, hfe, hL⟩ | ⟨q, rfl, E, ce, L, hx, hce, hcv, hcl, hW₂, hsm, hL⟩
  · obtain ⟨⟨v, rfl⟩, hW₂, e2, q2, q3, q4, q5, q6⟩ := id hfe
    have e3 : s₂ = ({ (U.calling g mk a).setFrames s₂.frames with heap := s₂.heap, slotsUsed := s₂.slotsUsed } : State).setVm s₂.vm := by
      have : s₂ = ({ s₂ with vm := (U.calling g mk a).vm } : State).setVm s₂.vm := rfl
      rw [e2] at this
      exact this
    obtain ⟨c₂, i₂, len₂, hc₂, hd₂, hf₂⟩ := hend
    have hW' : U.WarmedH s₂.vm := hW₂
    have hcc : c₂ = c := by
      have h1 : s₂.code? g.method = U.code? g.method := by
        rw [State.code?_eq, State.code?_eq, hW'.alike.method?]
      exact Option.some.inj (hc₂.symm.trans (h1.trans h.code))
    subst hcc
    have hlen : len₂ = len := by rw [hdg] at hd₂; cases hd₂; rfl
    subst hlen
    have hs₂ : s₂ = (({ U with heap := s₂.heap, slotsUsed := s₂.slotsUsed } : State).setVm s₂.vm).setTop { g with pc := g.pc + len₂, stack := v.toList ++ g.stack } := by
      refine e3.trans ?_
      rw [hf₂, State.calling_eq h.top, State.setFrames_setFrames, State.setTop_of_frames _ hr', hr]
      rfl
    have hsame : U.sameButNew ({ U with heap := s₂.heap, slotsUsed := s₂.slotsUsed } : State) L mc ms := by
      refine ⟨?_, q2, q3, q4, q5, q6⟩
      obtain ⟨t, ht, -⟩ := State.frames_cons hr
      show ({ U with heap := s₂.heap, slotsUsed := s₂.slotsUsed } : State) = { U.setFrames U.frames with heap := s₂.heap, slotsUsed := s₂.slotsUsed }
      rw [State.setFrames_self ht]
    subst hg
    refine Or.inl ⟨v, ⟨(({ U with heap := s₂.heap, slotsUsed := s₂.slotsUsed } : State).setVm s₂.vm), Ls ++ L, c0 + mc, s0 + ms⟩,
      ⟨X.admits, X.cas, X.clock, X.frames, X.room, X.hears, X.method, X.code, (X.here.setHeapUsed s₂.heap s₂.slotsUsed).setVm hW'.alike, X.tail, State.WarmedH.trans X.warmed hW', X.limits, X.bytes, X.same.trans (hsame.setVm s.vm)⟩,
      ⟨g, mk, s₂, L, rfl, rfl, hqc, rfl, hL, rfl, rfl⟩, ?_⟩
    show Steps p.tables e below _ ((({ U with heap := s₂.heap, slotsUsed := s₂.slotsUsed } : State).setVm s₂.vm).setTop { g with pc := g.pc + len₂, stack := v.toList ++ g.stack })
    rw [← hs₂]
    exact hsteps
  · obtain ⟨e2, q2, q3, q4, q5, q6⟩ := id hsm
    have e3 : s₂ = ({ (U.calling g mk a).setFrames s₂.frames with heap := s₂.heap, slotsUsed := s₂.slotsUsed } : State).setVm s₂.vm := by
      have : s₂ = ({ s₂ with vm := (U.calling g mk a).vm } : State).setVm s₂.vm := rfl
      rw [e2] at this
      exact this
    have hf₂ : s₂.frames = .throwing q :: .java g :: U.frames.tail := hend
    have hW' : U.WarmedH s₂.vm := hW₂
    have hs₂ : s₂ = ((({ U with heap := s₂.heap, slotsUsed := s₂.slotsUsed } : State).setVm s₂.vm).setTop g).pushFrame (.throwing q) := by
      refine e3.trans ?_
      rw [hf₂, State.calling_eq h.top, State.setFrames_setFrames, State.pushFrame, State.frames_setTop _ hr', State.setTop_of_frames _ hr', State.setFrames_setFrames, hr]
      rfl
    have hsame : U.sameButNew ({ U with heap := s₂.heap, slotsUsed := s₂.slotsUsed } : State) L mc ms := by
      refine ⟨?_, q2, q3, q4, q5, q6⟩
      obtain ⟨t, ht, -⟩ := State.frames_cons hr
      show ({ U with heap := s₂.heap, slotsUsed := s₂.slotsUsed } : State) = { U.setFrames U.frames with heap := s₂.heap, slotsUsed := s₂.slotsUsed }
      rw [State.setFrames_self ht]
    subst hg
    refine Or.inr ⟨q, ⟨(({ U with heap := s₂.heap, slotsUsed := s₂.slotsUsed } : State).setVm s₂.vm), Ls ++ L, c0 + mc, s0 + ms⟩,
      ⟨X.admits, X.cas, X.clock, X.frames, X.room, X.hears, X.method, X.code, (X.here.setHeapUsed s₂.heap s₂.slotsUsed).setVm hW'.alike, X.tail, State.WarmedH.trans X.warmed hW', X.limits, X.bytes, X.same.trans (hsame.setVm s.vm)⟩,
      ⟨g, mk, s₂, L, E, ce, rfl, rfl, hx, hce, hcv, hcl, rfl, hL, rfl, rfl⟩, ?_⟩
    show Steps p.tables e below _ (((({ U with heap := s₂.heap, slotsUsed := s₂.slotsUsed } : State).setVm s₂.vm).setTop g).pushFrame (.throwing q))
    rw [← hs₂]
    exact hsteps
end
variable {p : Program} {l : Launch} {e : Env} {R : Room} {s : State} {m : MethodId} {args : Array Value} {below : List Frame} {meth : Method} {c : Code} {T : State} {H : Heap} {locs : List Loc} {cells slots : Nat}
theorem vx_callVX (X : Stand p l e R s m args below meth c T locs cells slots) (hexec : p.tables.exec = Jvm.exec) {own C : String} {index : Nat} {y : MethodName} {bytes : ByteArray} {maxL : Nat} {ret : Option FieldType} {hh : List (Nat × Nat × Nat × Nat)}
    (hown : s.vm.findClass own = some m.cls) (hlink : (Cond.methodLink own index y).before args s = true) (hinst : (Cond.instanceMethod y).before args s = true) (hsel : (Cond.selects C y y).before args s = true)
    (hcode : (Cond.codeWith y bytes maxL ret hh).before args s = true) (hy : y.cls ≠ "java/lang/invoke/MethodHandle" ∧ y.cls ≠ "java/lang/invoke/VarHandle")
    {W9 : Nat} {Pre : Pt → Array Value → Prop} {Post : Pt → Array Value → Option Value → Pt → Prop} {PostX : Pt → Array Value → Addr → Pt → Prop} (hK : vx_Back l R p e below s args y 3 W9 Pre Post PostX)
    {b : Addr} {cellB : Cell} (hcell : T.heap[b]? = some cellB) (hobj : cellB.vm.isStatics = false) (hcls : s.vm.findClass C = some cellB.cls)
    {g : JFrame} (hg : g.method = m) (hsize : g.locals.size = c.maxLocals) {argsL rest : List Value} (hlen : ∀ sig, parseMethodDescriptor y.desc = some sig → argsL.length = sig.parameters.length)
    (hstack : g.stack = argsL.reverse ++ .ref b :: rest) (hW : 2 * g.monitorRoom + (rest.map fun v => v.category).sum ≤ W9) (hdg : decode c.code g.pc = .ok (.invokevirtual index, 3))
    (hpre : ∀ vm₁, s.WarmedH vm₁ → Pre ⟨T.setVm vm₁, locs, cells, slots⟩ (Value.ref b :: argsL).toArray) :
    (∃ (v : Option Value) (vm₁ : Vm) (B : Pt), s.WarmedH vm₁ ∧ Stand p l e R s m args below meth c B.U B.locs B.cells B.slots ∧ Post ⟨T.setVm vm₁, locs, cells, slots⟩ (Value.ref b :: argsL).toArray v B ∧
      ∀ target, Steps p.tables e below (B.U.setTop { g with pc := g.pc + 3, stack := v.toList ++ rest }) target → Steps p.tables e below (T.setTop g) target) ∨
    (∃ (q : Addr) (vm₁ : Vm) (B : Pt), s.WarmedH vm₁ ∧ Stand p l e R s m args below meth c B.U B.locs B.cells B.slots ∧ PostX ⟨T.setVm vm₁, locs, cells, slots⟩ (Value.ref b :: argsL).toArray q B ∧
      Steps p.tables e below (T.setTop g) ((B.U.setTop { g with stack := rest }).pushFrame (.throwing q))) := by
  obtain ⟨mk, methM, hnamed, hmethM, hstM, habM⟩ := Cond.instanceMethod_spec hinst
  obtain ⟨m8, methM', cM, hn8, hmethM', -, -, -, -, -, -, hsigM⟩ := Cond.codeWith_spec hcode
  cases Option.some.inj (hn8.symm.trans hnamed)
  cases hmethM.symm.trans hmethM'
  obtain ⟨c2, r2, m2, q1, q2, q3, q4, kP, hkP, hkPi⟩ := Cond.selects_spec hsel
  cases hcls.symm.trans q1
  cases (State.methodFound?_of_named hnamed hy).symm.trans q2
  cases hnamed.symm.trans q3
  have hselP : selectMethod e.platform s.vm cellB.cls mk = .method mk := by rw [Launch.admits_selectMethod X.admits]; exact q4
  obtain ⟨vm₁, X₁, hstep₁⟩ := X.invokevirtual hexec hown hlink hnamed hmethM hstM hkP hkPi hy (a := b) (cell := cellB) hcell
    (fun z h => by rw [h] at hobj; cases hobj) hselP hmethM habM hkP hkPi (g := g) hg (argsL := argsL) (rest := rest) (hlen _ hsigM) hstack hdg
  rcases hK m meth c ⟨T.setVm vm₁, locs, cells, slots⟩ { g with stack := rest } (.invokevirtual index) mk (Value.ref b :: argsL).toArray X₁ hg hsize hdg hW (X₁.named hnamed) (hpre vm₁ X₁.warmed) with ⟨v, B, X', hpost, hsteps⟩ | ⟨q, B, X', hpost, hsteps⟩
  · exact Or.inl ⟨v, vm₁, B, X₁.warmed, X', hpost, fun target h => hstep₁ _ fun acts => by rw [doInvoke_state]; exact hsteps.trans h⟩
  · exact Or.inr ⟨q, vm₁, B, X₁.warmed, X', hpost, hstep₁ _ fun acts => by rw [doInvoke_state]; exact hsteps⟩
theorem vx_callSX (X : Stand p l e R s m args below meth c T locs cells slots) (hexec : p.tables.exec = Jvm.exec) {own : String} {index : Nat} {y : MethodName} {bytes : ByteArray} {maxL : Nat} {ret : Option FieldType} {hh : List (Nat × Nat × Nat × Nat)}
    (hown : s.vm.findClass own = some m.cls) (hlink : (Cond.methodLink own index y).before args s = true) (hstat : (Cond.static y).before args s = true) (hinit : (Cond.initialized y.cls).before args s = true)
    (hcode : (Cond.codeWith y bytes maxL ret hh).before args s = true) (hy : y.cls ≠ "java/lang/invoke/MethodHandle" ∧ y.cls ≠ "java/lang/invoke/VarHandle")
    {W9 : Nat} {Pre : Pt → Array Value → Prop} {Post : Pt → Array Value → Option Value → Pt → Prop} {PostX : Pt → Array Value → Addr → Pt → Prop} (hK : vx_Back l R p e below s args y 3 W9 Pre Post PostX)
    {g : JFrame} (hg : g.method = m) (hsize : g.locals.size = c.maxLocals) {argsL rest : List Value} (hlen : ∀ sig, parseMethodDescriptor y.desc = some sig → argsL.length = sig.parameters.length)
    (hstack : g.stack = argsL.reverse ++ rest) (hW : 2 * g.monitorRoom + (rest.map fun v => v.category).sum ≤ W9) (hdg : decode c.code g.pc = .ok (.invokestatic index, 3))
    (hpre : ∀ vm₁, s.WarmedH vm₁ → Pre ⟨T.setVm vm₁, locs, cells, slots⟩ argsL.toArray) :
    (∃ (v : Option Value) (vm₁ : Vm) (B : Pt), s.WarmedH vm₁ ∧ Stand p l e R s m args below meth c B.U B.locs B.cells B.slots ∧ Post ⟨T.setVm vm₁, locs, cells, slots⟩ argsL.toArray v B ∧
      ∀ target, Steps p.tables e below (B.U.setTop { g with pc := g.pc + 3, stack := v.toList ++ rest }) target → Steps p.tables e below (T.setTop g) target) ∨
    (∃ (q : Addr) (vm₁ : Vm) (B : Pt), s.WarmedH vm₁ ∧ Stand p l e R s m args below meth c B.U B.locs B.cells B.slots ∧ PostX ⟨T.setVm vm₁, locs, cells, slots⟩ argsL.toArray q B ∧
      Steps p.tables e below (T.setTop g) ((B.U.setTop { g with stack := rest }).pushFrame (.throwing q))) := by
  obtain ⟨mk, methM, cM, hnamed, hmethM, -, -, -, -, -, -, hsigM⟩ := Cond.codeWith_spec hcode
  have hstatic : methM.isStatic = true := Cond.static_spec hnamed hmethM hstat
  obtain ⟨kP, hkP, -⟩ := className_of_methodNamed hnamed
  have hinitP : kP.init = .initialized := Cond.initialized_spec (findClass_of_methodNamed hnamed) hkP hinit
  obtain ⟨vm₁, X₁, hstep₁⟩ := X.invokestatic hexec hown hlink hnamed hmethM hstatic hkP hinitP hy (g := g) hg (argsL := argsL) (rest := rest) (hlen _ hsigM) hstack hdg
  rcases hK m meth c ⟨T.setVm vm₁, locs, cells, slots⟩ { g with stack := rest } (.invokestatic index) mk argsL.toArray X₁ hg hsize hdg hW (X₁.named hnamed) (hpre vm₁ X₁.warmed) with ⟨v, B, X', hpost, hsteps⟩ | ⟨q, B, X', hpost, hsteps⟩
  · exact Or.inl ⟨v, vm₁, B, X₁.warmed, X', hpost, fun target h => hstep₁ _ fun acts => by rw [doInvoke_state]; exact hsteps.trans h⟩
  · exact Or.inr ⟨q, vm₁, B, X₁.warmed, X', hpost, hstep₁ _ fun acts => by rw [doInvoke_state]; exact hsteps⟩
theorem vx_callVW (X : Stand p l e R s m args below meth c T locs cells slots) (hexec : p.tables.exec = Jvm.exec) {own C : String} {index : Nat} {y : MethodName} {bytes : ByteArray} {maxL : Nat} {ret : Option FieldType} {hh : List (Nat × Nat × Nat × Nat)}
    (hown : s.vm.findClass own = some m.cls) (hlink : (Cond.methodLink own index y).before args s = true) (hinst : (Cond.instanceMethod y).before args s = true) (hsel : (Cond.selects C y y).before args s = true)
    (hcode : (Cond.codeWith y bytes maxL ret hh).before args s = true) (hy : y.cls ≠ "java/lang/invoke/MethodHandle" ∧ y.cls ≠ "java/lang/invoke/VarHandle")
    {W9 : Nat} {Pre : Pt → Array Value → Prop} {Post : Pt → Array Value → Option Value → Pt → Prop} (hK : Back l R p e below s args y 3 W9 Pre Post)
    {b : Addr} {cellB : Cell} (hcell : T.heap[b]? = some cellB) (hobj : cellB.vm.isStatics = false) (hcls : s.vm.findClass C = some cellB.cls)
    {g : JFrame} (hg : g.method = m) (hsize : g.locals.size = c.maxLocals) {argsL rest : List Value} (hlen : ∀ sig, parseMethodDescriptor y.desc = some sig → argsL.length = sig.parameters.length)
    (hstack : g.stack = argsL.reverse ++ .ref b :: rest) (hW : 2 * g.monitorRoom + (rest.map fun v => v.category).sum ≤ W9) (hdg : decode c.code g.pc = .ok (.invokevirtual index, 3))
    (hpre : ∀ vm₁, s.WarmedH vm₁ → Pre ⟨T.setVm vm₁, locs, cells, slots⟩ (Value.ref b :: argsL).toArray) :
    ∃ (v : Option Value) (vm₁ : Vm) (B : Pt), s.WarmedH vm₁ ∧ Stand p l e R s m args below meth c B.U B.locs B.cells B.slots ∧ Post ⟨T.setVm vm₁, locs, cells, slots⟩ (Value.ref b :: argsL).toArray v B ∧
      ∀ target, Steps p.tables e below (B.U.setTop { g with pc := g.pc + 3, stack := v.toList ++ rest }) target → Steps p.tables e below (T.setTop g) target := by
  obtain ⟨mk, methM, hnamed, hmethM, hstM, habM⟩ := Cond.instanceMethod_spec hinst
  obtain ⟨m8, methM', cM, hn8, hmethM', -, -, -, -, -, -, hsigM⟩ := Cond.codeWith_spec hcode
  cases Option.some.inj (hn8.symm.trans hnamed)
  cases hmethM.symm.trans hmethM'
  obtain ⟨c2, r2, m2, q1, q2, q3, q4, kP, hkP, hkPi⟩ := Cond.selects_spec hsel
  cases hcls.symm.trans q1
  cases (State.methodFound?_of_named hnamed hy).symm.trans q2
  cases hnamed.symm.trans q3
  have hselP : selectMethod e.platform s.vm cellB.cls mk = .method mk := by rw [Launch.admits_selectMethod X.admits]; exact q4
  obtain ⟨vm₁, X₁, hstep₁⟩ := X.invokevirtual hexec hown hlink hnamed hmethM hstM hkP hkPi hy (a := b) (cell := cellB) hcell
    (fun z h => by rw [h] at hobj; cases hobj) hselP hmethM habM hkP hkPi (g := g) hg (argsL := argsL) (rest := rest) (hlen _ hsigM) hstack hdg
  obtain ⟨v, B, X', hpost, hsteps⟩ := hK m meth c ⟨T.setVm vm₁, locs, cells, slots⟩ { g with stack := rest } (.invokevirtual index) mk (Value.ref b :: argsL).toArray X₁ hg hsize hdg hW (X₁.named hnamed) (hpre vm₁ X₁.warmed)
  exact ⟨v, vm₁, B, X₁.warmed, X', hpost, fun target h => hstep₁ _ fun acts => by rw [doInvoke_state]; exact hsteps.trans h⟩
abbrev vx_CVW (R : Room) (s : State) (args : Array Value) (own C : String) (index : Nat) (y : MethodName) (bytes : ByteArray) (maxL : Nat) (ret : Option FieldType) (hh : List (Nat × Nat × Nat × Nat)) (ws : List Cond) (rm : Room) (mc ms n : Nat) : Prop :=
  (rm.cells = mc ∧ rm.slots = ms ∧ rm.frames + 1 ≤ R.frames ∧ 8 + (maxL + 11) + rm.locals ≤ R.locals ∧ (∀ w ∈ ws, ∀ (a' : Array Value) (U : State), s.WarmedH U.vm → w.before a' U = true) ∧ Cond.codeWith y bytes maxL ret hh ∈ ws) ∧
  (Cond.codeWith y bytes maxL ret hh).before args s = true ∧ (Cond.initialized y.cls).before args s = true ∧ (y.cls ≠ "java/lang/invoke/MethodHandle" ∧ y.cls ≠ "java/lang/invoke/VarHandle") ∧
  (∀ sig, parseMethodDescriptor y.desc = some sig → n = sig.parameters.length) ∧ (Cond.methodLink own index y).before args s = true ∧ (Cond.instanceMethod y).before args s = true ∧ (Cond.selects C y y).before args s = true
theorem vx_cwVW {own C : String} {index maxL mc ms : Nat} {y : MethodName} {bytes : ByteArray} {ret : Option FieldType} {hh : List (Nat × Nat × Nat × Nat)} {Ts ws ws' : List Cond} {rm : Room} (n : Nat) (ht : ∀ w ∈ Ts, w.before args s = true) (hT : GoodIn Ts (wsV own index C y ws)) (hw : ws = Cond.codeWith y bytes maxL ret hh :: ws') (hrc : rm.cells = mc) (hrs : rm.slots = ms)
    (hd : y.cls = C ∧ y.cls ≠ "java/lang/invoke/MethodHandle" ∧ y.cls ≠ "java/lang/invoke/VarHandle" ∧ (parseMethodDescriptor y.desc).map (fun d => d.parameters.length) = some n) (hR : rm.frames + 1 ≤ R.frames ∧ 8 + (maxL + 11) + rm.locals ≤ R.locals) :
    vx_CVW R s args own C index y bytes maxL ret hh ws rm mc ms n := by
  obtain ⟨hC, hd⟩ := hd
  subst hC
  have ok : ∀ w ∈ wsV own index y.cls y ws, w.before args s = true := fun w h => ht w (hT w h).1
  have hG : GoodIn Ts ws := fun w h => hT w (by unfold wsV; exact List.mem_append_right _ h)
  have hc : Cond.codeWith y bytes maxL ret hh ∈ ws := by rw [hw]; exact List.mem_cons_self
  refine ⟨⟨hrc, hrs, hR.1, hR.2, pay_in ht hG, hc⟩, ht _ (hG _ hc).1, ok _ (by simp [wsV]), ⟨hd.1, hd.2.1⟩, fun sig h => ?_, ok _ (by simp [wsV]), ok _ (by simp [wsV]), ok _ (by simp [wsV])⟩
  have h2 := hd.2.2
  rw [h] at h2
  exact (Option.some.inj h2).symm
theorem vx_runVW {y : MethodName} {bytes cc : ByteArray} {maxL nL mc ms n index : Nat} {ret : Option FieldType} {hh : List (Nat × Nat × Nat × Nat)} {ws : List Cond} {rm : Room} {Pc : Array Value → State → Prop} {Qc : Array Value → State → Outcome → State → Prop} {free : Addr → Prop} {Ts : List Cond} {own C : String} {b : Addr} {As rest : List Value} {g : JFrame}
    (S : CallFix p m c cc nL s args Ts own) (hM : Met l y ws rm Pc Qc mc ms free) (cw : vx_CVW R s args own C index y bytes maxL ret hh ws rm mc ms n) (hp : PreV s H C b Pc As)
    (hg : g.method = m) (hn : As.length = n) (hsize : g.locals.size = nL) (hstack : g.stack = As.reverse ++ .ref b :: rest) (hW : 2 * g.monitorRoom + (rest.map fun v => v.category).sum ≤ 8) (hdg : decode cc g.pc = .ok (.invokevirtual index, 3)) (hf : cells + mc ≤ R.cells ∧ slots + ms ≤ R.slots) :
    va_Run p l e R s m args below meth c H locs cells slots mc ms g rest (Qc (Value.ref b :: As).toArray) free := by
  obtain ⟨⟨hrc, hrs, hfr, hlo, hws, hcw⟩, hcode, hini, hy, hlen, hl, hin, hse⟩ := cw
  have hK : Back l R p e below s args y 3 8 (PreOf R mc ms Pc) (PostOf Qc mc ms free) := va_backW (hh := hh) (bytes := bytes) (maxL := maxL) (ret := ret) hM hp.1 hrc hrs hfr hlo hws hcw (fun a' U hW => word_at hW (Or.inl (by first | rfl | simp [Cond.onTables, Cond.keeps, Cond.steady])) hini)
  obtain ⟨hx, hb, hml, ho, -⟩ := S
  obtain ⟨-, ⟨cellB, hcB, hoB, hclB⟩, hPc⟩ := hp
  intro T hT X
  obtain ⟨v, vm₁, ⟨U', l2, c2, s2⟩, hW₁, X', ⟨g', mk, t, L, e1, e2, hq, h1, hL, h2, h3⟩, st⟩ := vx_callVW X hx (C := C) (hh := hh) (bytes := bytes) (maxL := maxL) (ret := ret) ho hl hin hse hcode hy hK (by rw [hT]; exact hcB) hoB hclB hg (hsize.trans hml.symm) (argsL := As) (rest := rest) (fun sig h => hn.trans (hlen sig h)) hstack hW (by rw [hb]; exact hdg)
    (fun vm₁ hW₁ => ⟨hf.1, hf.2, hPc (T.setVm vm₁) hT hW₁⟩)
  dsimp only [Pt.U, Pt.locs, Pt.cells, Pt.slots] at X' e1 e2 h1 h2 h3 st
  subst h1; subst h2; subst h3
  exact ⟨v, (T.setVm vm₁).calling g' mk (Value.ref b :: As).toArray, t, U', L, hT, X', hL, e1, e2, hq, st⟩
section
variable {y : MethodName} {bytes cc : ByteArray} {maxL nL mc ms n index : Nat} {ret : Option FieldType} {ws : List Cond} {rm : Room} {Pc : Array Value → State → Prop} {Qc : Array Value → State → Outcome → State → Prop} {XC : String → State → State → Prop} {free : Addr → Prop} {Ts : List Cond} {own C : String} {b : Addr} {As rest : List Value} {g : JFrame}
theorem vx_runVX {hh : List (Nat × Nat × Nat × Nat)} (S : CallFix p m c cc nL s args Ts own) (hM : vx_Met l y ws rm Pc Qc XC mc ms free) (cw : vx_CVW R s args own C index y bytes maxL ret hh ws rm mc ms n) (hp : PreV s H C b Pc As)
    (hg : g.method = m) (hn : As.length = n) (hsize : g.locals.size = nL) (hstack : g.stack = As.reverse ++ .ref b :: rest) (hW : 2 * g.monitorRoom + (rest.map fun v => v.category).sum ≤ 8) (hdg : decode cc g.pc = .ok (.invokevirtual index, 3)) (hf : cells + mc ≤ R.cells ∧ slots + ms ≤ R.slots) :
    vx_Run p l e R s m args below meth c H locs cells slots mc ms g rest (Qc (Value.ref b :: As).toArray) XC free := by
  obtain ⟨⟨hrc, hrs, hfr, hlo, hws, hcw⟩, hcode, hini, hy, hlen, hl, hin, hse⟩ := cw
  have hK : vx_Back l R p e below s args y 3 8 (PreOf R mc ms Pc) (PostOf Qc mc ms free) (vx_Post XC mc ms free) := vx_backW (hh := hh) (bytes := bytes) (maxL := maxL) (ret := ret) hM hp.1 hrc hrs hfr hlo hws hcw (fun a' U hW => word_at hW (Or.inl (by first | rfl | simp [Cond.onTables, Cond.keeps, Cond.steady])) hini)
  obtain ⟨hx, hb, hml, ho, -⟩ := S
  obtain ⟨-, ⟨cellB, hcB, hoB, hclB⟩, hPc⟩ := hp
  intro T hT X
  rcases vx_callVX X hx (C := C) (hh := hh) (bytes := bytes) (maxL := maxL) (ret := ret) ho hl hin hse hcode hy hK (by rw [hT]; exact hcB) hoB hclB hg (hsize.trans hml.symm) (argsL := As) (rest := rest) (fun sig h => hn.trans (hlen sig h)) hstack hW (by rw [hb]; exact hdg)
    (fun vm₁ hW₁ => ⟨hf.1, hf.2, hPc (T.setVm vm₁) hT hW₁⟩) with ⟨v, vm₁, ⟨U', l2, c2, s2⟩, hW₁, X', ⟨g', mk, t, L, e1, e2, hq, h1, hL, h2, h3⟩, st⟩ | ⟨q, vm₁, ⟨U', l2, c2, s2⟩, hW₁, X', ⟨g', mk, t, L, E, ce, e1, e2, hq, hce, hcv, hcl, h1, hL, h2, h3⟩, st⟩
  · dsimp only [Pt.U, Pt.locs, Pt.cells, Pt.slots] at X' e1 e2 h1 h2 h3 st
    subst h1; subst h2; subst h3
    exact Or.inl ⟨v, (T.setVm vm₁).calling g' mk (Value.ref b :: As).toArray, t, U', L, hT, X', hL, e1, e2, hq, st⟩
  · dsimp only [Pt.U, Pt.locs, Pt.cells, Pt.slots] at X' e1 e2 h1 h2 h3 st hcl
    subst h1; subst h2; subst h3
    exact Or.inr ⟨q, (T.setVm vm₁).calling g' mk (Value.ref b :: As).toArray, t, U', L, E, ce, hT, X', hL, e1, e2, hq, hce, hcv, vx_cls hW₁ hcl, st⟩
theorem vx_runSX {hh : List (Nat × Nat × Nat × Nat)} (S : CallFix p m c cc nL s args Ts own) (hM : vx_Met l y ws rm Pc Qc XC mc ms free) (cw : vx_CSW R s args own index y bytes maxL ret hh ws rm mc ms n) (hp : PreS s H Pc As)
    (hg : g.method = m) (hn : As.length = n) (hsize : g.locals.size = nL) (hstack : g.stack = As.reverse ++ rest) (hW : 2 * g.monitorRoom + (rest.map fun v => v.category).sum ≤ 8) (hdg : decode cc g.pc = .ok (.invokestatic index, 3)) (hf : cells + mc ≤ R.cells ∧ slots + ms ≤ R.slots) :
    vx_Run p l e R s m args below meth c H locs cells slots mc ms g rest (Qc As.toArray) XC free := by
  obtain ⟨⟨hrc, hrs, hfr, hlo, hws, hcw⟩, hcode, hini, hy, hlen, hl, hstt⟩ := cw
  have hK : vx_Back l R p e below s args y 3 8 (PreOf R mc ms Pc) (PostOf Qc mc ms free) (vx_Post XC mc ms free) := vx_backW (hh := hh) (bytes := bytes) (maxL := maxL) (ret := ret) hM hp.1 hrc hrs hfr hlo hws hcw (fun a' U hW => word_at hW (Or.inl (by first | rfl | simp [Cond.onTables, Cond.keeps, Cond.steady])) hini)
  obtain ⟨hx, hb, hml, ho, -⟩ := S
  intro T hT X
  rcases vx_callSX X hx (hh := hh) (bytes := bytes) (maxL := maxL) (ret := ret) ho hl hstt hini hcode hy hK hg (hsize.trans hml.symm) (argsL := As) (rest := rest) (fun sig h => hn.trans (hlen sig h)) hstack hW (by rw [hb]; exact hdg)
    (fun vm₁ hW₁ => ⟨hf.1, hf.2, hp.2 (T.setVm vm₁) hT hW₁⟩) with ⟨v, vm₁, ⟨U', l2, c2, s2⟩, hW₁, X', ⟨g', mk, t, L, e1, e2, hq, h1, hL, h2, h3⟩, st⟩ | ⟨q, vm₁, ⟨U', l2, c2, s2⟩, hW₁, X', ⟨g', mk, t, L, E, ce, e1, e2, hq, hce, hcv, hcl, h1, hL, h2, h3⟩, st⟩
  · dsimp only [Pt.U, Pt.locs, Pt.cells, Pt.slots] at X' e1 e2 h1 h2 h3 st
    subst h1; subst h2; subst h3
    exact Or.inl ⟨v, (T.setVm vm₁).calling g' mk As.toArray, t, U', L, hT, X', hL, e1, e2, hq, st⟩
  · dsimp only [Pt.U, Pt.locs, Pt.cells, Pt.slots] at X' e1 e2 h1 h2 h3 st hcl
    subst h1; subst h2; subst h3
    exact Or.inr ⟨q, (T.setVm vm₁).calling g' mk As.toArray, t, U', L, E, ce, hT, X', hL, e1, e2, hq, hce, hcv, vx_cls hW₁ hcl, st⟩
end
end VXH
theorem vx_ofWH {l : Launch} {y : MethodName} {ws ws' : List Cond} {rm : Room} {Pc : Array Value → State → Prop} {Qc : Array Value → State → Outcome → State → Prop} {XC : String → State → State → Prop} {mc ms : Nat} {free : Addr → Prop} {cc : ByteArray} {maxL : Nat} {ret : Option FieldType} {hh : List (Nat × Nat × Nat × Nat)}
    (hy : plainName y.cls = true) (hw : ws = Cond.codeWith y cc maxL ret hh :: ws')
    (body : ∀ p e s m args below meth c s₁, BodyLoose p l y (headSpec ws rm) cc maxL ret e s m args below meth c s₁ → c.maxLocals = maxL → Pc args s →
      W p l e (headSpec ws rm).room s m args below meth c s.heap [] 0 0 (vx_MQ below Qc XC args s mc ms free) (entryFrame m args maxL)) : vx_Met l y ws rm Pc Qc XC mc ms free := by
  refine MetFree.of_bodyS (code := cc) (maxLocals := maxL) (ret := ret) hy ?_ ?_
  · intro args s m h hn
    obtain ⟨m9, meth, c, hn9, h1, h2, h3, h4, -, h5, h6, -⟩ := Cond.codeWith_spec (atoms_spec (ws := ws) h _ (by rw [hw]; exact List.mem_cons_self))
    cases hn.symm.trans hn9
    exact ⟨meth, c, h1, h2, h3, h4, h5, h6⟩
  · intro p e s m args below meth c s₁ B hml hP _
    have hh0 : s₁.heap = s.heap := by rw [B.state]; rfl
    obtain ⟨t, a1, o, b1, b2, b3⟩ := body p e s m args below meth c s₁ B hml hP s₁ hh0 (Stand.of_body B)
    exact ⟨t, o, a1, b1, b2, b3⟩
/-! ===== END ===== -/
end
section
/-! ===== BEGIN printed: names, fields, word lists, decode rows ===== -/
def RX0 : String := "LayerMoisture$Air"
def TX0 : u_T := fun k => match k with
  | 0 => ("LayerMoisture$Air", "kelvin", "D", false)
  | 1 => ("LayerMoisture$Air", "damp", "D", false)
  | 2 => ("LayerMoisture$Air", "speed", "D", false)
  | _ => ("LayerMoisture$Air", "ventShare", "D", false)
def tyX0 : Nat → FieldType := fun k => match k with
  | 0 => .double
  | 1 => .double
  | 2 => .double
  | _ => .double
abbrev wsX00 : List Cond := u_ws RX0 TX0 4
theorem nmX0 : ∀ a, a < 4 → ∀ b, b < 4 → a ≠ b → (TX0 a).2.1 ≠ (TX0 b).2.1 := by decide +kernel
theorem tyX0_ok : ∀ k, k < 4 → parseFieldDescriptor (TX0 k).2.2.1 = some (tyX0 k) := by decide +kernel
abbrev cX0_init : ByteArray := prog_2_method_1_code
def yX0_init : MethodName := ⟨RX0, "<init>", "()V"⟩
abbrev cX0_balanceNow : ByteArray := prog_2_method_2_code
def yX0_balanceNow : MethodName := ⟨RX0, "balanceNow", "()D"⟩
abbrev cX0_takeUp : ByteArray := prog_2_method_3_code
def yX0_takeUp : MethodName := ⟨RX0, "takeUp", "(D)V"⟩
def RX1 : String := "LayerMoisture$Board"
def TX1 : u_T := fun k => match k with
  | 0 => ("LayerMoisture$Board", "wetness", "[D", true)
  | 1 => ("LayerMoisture$Board", "kind", "LLayerMoisture$Kind;", false)
  | 2 => ("LayerMoisture$Board", "there", "Z", false)
  | 3 => ("LayerMoisture$Board", "depth", "D", false)
  | 4 => ("LayerMoisture$Board", "limited", "Z", false)
  | 5 => ("LayerMoisture$Board", "loadLimit", "D", false)
  | _ => ("LayerMoisture$Board", "keptHour", "I", false)
def tyX1 : Nat → FieldType := fun k => match k with
  | 0 => .array .double
  | 1 => .object "LayerMoisture$Kind"
  | 2 => .boolean
  | 3 => .double
  | 4 => .boolean
  | 5 => .double
  | _ => .int
abbrev wsX10 : List Cond := u_ws RX1 TX1 7
theorem nmX1 : ∀ a, a < 7 → ∀ b, b < 7 → a ≠ b → (TX1 a).2.1 ≠ (TX1 b).2.1 := by decide +kernel
theorem tyX1_ok : ∀ k, k < 7 → parseFieldDescriptor (TX1 k).2.2.1 = some (tyX1 k) := by decide +kernel
abbrev cX1_init : ByteArray := prog_3_method_1_code
def yX1_init : MethodName := ⟨RX1, "<init>", "(ILLayerMoisture$Kind;)V"⟩
abbrev cX1_lay : ByteArray := prog_3_method_2_code
def yX1_lay : MethodName := ⟨RX1, "lay", "(DDLLayerMoisture$Kind;)V"⟩
abbrev cX1_setLimit : ByteArray := prog_3_method_3_code
def yX1_setLimit : MethodName := ⟨RX1, "setLimit", "(D)V"⟩
abbrev cX1_meanWetness : ByteArray := prog_3_method_4_code
def yX1_meanWetness : MethodName := ⟨RX1, "meanWetness", "()D"⟩
abbrev cX1_greatestWetness : ByteArray := prog_3_method_5_code
def yX1_greatestWetness : MethodName := ⟨RX1, "greatestWetness", "()D"⟩
abbrev cX1_refuses : ByteArray := prog_3_method_6_code
def yX1_refuses : MethodName := ⟨RX1, "refuses", "(D)Z"⟩
abbrev cX1_dry : ByteArray := prog_3_method_7_code
def yX1_dry : MethodName := ⟨RX1, "dry", "(DD)D"⟩
abbrev cX1_faceFlow : ByteArray := prog_3_method_8_code
def yX1_faceFlow : MethodName := ⟨RX1, "faceFlow", "(DDD)D"⟩
abbrev cX1_slopeFlow : ByteArray := prog_3_method_9_code
def yX1_slopeFlow : MethodName := ⟨RX1, "slopeFlow", "(DD)D"⟩
abbrev cX1_shrinkage : ByteArray := prog_3_method_10_code
def yX1_shrinkage : MethodName := ⟨RX1, "shrinkage", "(D)D"⟩
abbrev cX1_meanShrinkage : ByteArray := prog_3_method_11_code
def yX1_meanShrinkage : MethodName := ⟨RX1, "meanShrinkage", "()D"⟩
abbrev cX1_greatestLoad : ByteArray := prog_3_method_12_code
def yX1_greatestLoad : MethodName := ⟨RX1, "greatestLoad", "()D"⟩
abbrev cX1_watchLoad : ByteArray := prog_3_method_13_code
def yX1_watchLoad : MethodName := ⟨RX1, "watchLoad", "(I)V"⟩
def RX2 : String := "LayerMoisture$Kind"
def TX2 : u_T := fun k => match k with
  | 0 => ("LayerMoisture$Kind", "a", "D", false)
  | _ => ("LayerMoisture$Kind", "b", "D", false)
def tyX2 : Nat → FieldType := fun k => match k with
  | 0 => .double
  | _ => .double
abbrev wsX20 : List Cond := u_ws RX2 TX2 2
theorem nmX2 : ∀ a, a < 2 → ∀ b, b < 2 → a ≠ b → (TX2 a).2.1 ≠ (TX2 b).2.1 := by decide +kernel
theorem tyX2_ok : ∀ k, k < 2 → parseFieldDescriptor (TX2 k).2.2.1 = some (tyX2 k) := by decide +kernel
abbrev cX2_init : ByteArray := prog_4_method_1_code
def yX2_init : MethodName := ⟨RX2, "<init>", "()V"⟩
abbrev cX2_speedAt : ByteArray := prog_4_method_2_code
def yX2_speedAt : MethodName := ⟨RX2, "speedAt", "(D)D"⟩
def RX3 : String := "LayerMoisture$Ledger"
def TX3 : u_T := fun k => match k with
  | 0 => ("LayerMoisture$Ledger", "rest", "D", false)
  | _ => ("LayerMoisture$Ledger", "gone", "J", false)
def tyX3 : Nat → FieldType := fun k => match k with
  | 0 => .double
  | _ => .long
abbrev wsX30 : List Cond := u_ws RX3 TX3 2
theorem nmX3 : ∀ a, a < 2 → ∀ b, b < 2 → a ≠ b → (TX3 a).2.1 ≠ (TX3 b).2.1 := by decide +kernel
theorem tyX3_ok : ∀ k, k < 2 → parseFieldDescriptor (TX3 k).2.2.1 = some (tyX3 k) := by decide +kernel
abbrev cX3_init : ByteArray := prog_5_method_1_code
def yX3_init : MethodName := ⟨RX3, "<init>", "()V"⟩
abbrev cX3_take : ByteArray := prog_5_method_2_code
def yX3_take : MethodName := ⟨RX3, "take", "(D)V"⟩
def RX4 : String := "LayerMoisture$Plan"
def TX4 : u_T := fun k => match k with
  | 0 => ("LayerMoisture$Plan", "byHours", "[Z", true)
  | 1 => ("LayerMoisture$Plan", "times", "[I", true)
  | 2 => ("LayerMoisture$Plan", "kelvins", "[I", true)
  | 3 => ("LayerMoisture$Plan", "damps", "[I", true)
  | 4 => ("LayerMoisture$Plan", "steps", "I", false)
  | _ => ("LayerMoisture$Plan", "done", "I", false)
def tyX4 : Nat → FieldType := fun k => match k with
  | 0 => .array .boolean
  | 1 => .array .int
  | 2 => .array .int
  | 3 => .array .int
  | 4 => .int
  | _ => .int
abbrev wsX40 : List Cond := u_ws RX4 TX4 6
theorem nmX4 : ∀ a, a < 6 → ∀ b, b < 6 → a ≠ b → (TX4 a).2.1 ≠ (TX4 b).2.1 := by decide +kernel
theorem tyX4_ok : ∀ k, k < 6 → parseFieldDescriptor (TX4 k).2.2.1 = some (tyX4 k) := by decide +kernel
abbrev cX4_init : ByteArray := prog_6_method_1_code
def yX4_init : MethodName := ⟨RX4, "<init>", "()V"⟩
abbrev cX4_readFrom : ByteArray := prog_6_method_2_code
def yX4_readFrom : MethodName := ⟨RX4, "readFrom", "(LLayerMoisture$Text;)I"⟩
abbrev cX4_readSteps : ByteArray := prog_6_method_3_code
def yX4_readSteps : MethodName := ⟨RX4, "readSteps", "(LLayerMoisture$Text;)I"⟩
abbrev cX4_readStep : ByteArray := prog_6_method_4_code
def yX4_readStep : MethodName := ⟨RX4, "readStep", "(LLayerMoisture$Text;I)Z"⟩
def RX5 : String := "LayerMoisture$Text"
def TX5 : u_T := fun k => match k with
  | 0 => ("LayerMoisture$Text", "units", "[C", true)
  | 1 => ("LayerMoisture$Text", "length", "I", false)
  | _ => ("LayerMoisture$Text", "place", "I", false)
def tyX5 : Nat → FieldType := fun k => match k with
  | 0 => .array .char
  | 1 => .int
  | _ => .int
abbrev wsX50 : List Cond := u_ws RX5 TX5 3
theorem nmX5 : ∀ a, a < 3 → ∀ b, b < 3 → a ≠ b → (TX5 a).2.1 ≠ (TX5 b).2.1 := by decide +kernel
theorem tyX5_ok : ∀ k, k < 3 → parseFieldDescriptor (TX5 k).2.2.1 = some (tyX5 k) := by decide +kernel
abbrev cX5_init : ByteArray := prog_7_method_1_code
def yX5_init : MethodName := ⟨RX5, "<init>", "()V"⟩
abbrev cX5_append : ByteArray := prog_7_method_2_code
def yX5_append : MethodName := ⟨RX5, "append", "(I)Z"⟩
abbrev cX5_empty : ByteArray := prog_7_method_3_code
def yX5_empty : MethodName := ⟨RX5, "empty", "()V"⟩
abbrev cX5_isAtEnd : ByteArray := prog_7_method_4_code
def yX5_isAtEnd : MethodName := ⟨RX5, "isAtEnd", "()Z"⟩
abbrev cX5_next : ByteArray := prog_7_method_5_code
def yX5_next : MethodName := ⟨RX5, "next", "()C"⟩
abbrev cX5_isAtDigit : ByteArray := prog_7_method_6_code
def yX5_isAtDigit : MethodName := ⟨RX5, "isAtDigit", "()Z"⟩
abbrev cX5_pass : ByteArray := prog_7_method_7_code
def yX5_pass : MethodName := ⟨RX5, "pass", "(C)Z"⟩
abbrev cX5_readNumber : ByteArray := prog_7_method_8_code
def yX5_readNumber : MethodName := ⟨RX5, "readNumber", "(II)I"⟩
def RX6 : String := "LayerMoisture"
def TX6 : u_T := fun k => match k with
  | 0 => ("LayerMoisture", "layerCount", "I", true)
  | 1 => ("LayerMoisture", "boards", "[LLayerMoisture$Board;", true)
  | 2 => ("LayerMoisture", "kinds", "[LLayerMoisture$Kind;", true)
  | 3 => ("LayerMoisture", "state", "LLayerMoisture$Air;", true)
  | 4 => ("LayerMoisture", "ledger", "LLayerMoisture$Ledger;", true)
  | 5 => ("LayerMoisture", "text", "LLayerMoisture$Text;", true)
  | 6 => ("LayerMoisture", "plan", "LLayerMoisture$Plan;", true)
  | _ => ("LayerMoisture", "hoursPassed", "I", false)
def tyX6 : Nat → FieldType := fun k => match k with
  | 0 => .int
  | 1 => .array (.object "LayerMoisture$Board")
  | 2 => .array (.object "LayerMoisture$Kind")
  | 3 => .object "LayerMoisture$Air"
  | 4 => .object "LayerMoisture$Ledger"
  | 5 => .object "LayerMoisture$Text"
  | 6 => .object "LayerMoisture$Plan"
  | _ => .int
abbrev wsX60 : List Cond := u_ws RX6 TX6 8
theorem nmX6 : ∀ a, a < 8 → ∀ b, b < 8 → a ≠ b → (TX6 a).2.1 ≠ (TX6 b).2.1 := by decide +kernel
theorem tyX6_ok : ∀ k, k < 8 → parseFieldDescriptor (TX6 k).2.2.1 = some (tyX6 k) := by decide +kernel
abbrev cX6_init : ByteArray := prog_1_method_1_code
def yX6_init : MethodName := ⟨RX6, "<init>", "(II)V"⟩
abbrev cX6_board : ByteArray := prog_1_method_2_code
def yX6_board : MethodName := ⟨RX6, "board", "(IDDI)V"⟩
abbrev cX6_rate : ByteArray := prog_1_method_3_code
def yX6_rate : MethodName := ⟨RX6, "rate", "(IDD)V"⟩
abbrev cX6_air : ByteArray := prog_1_method_4_code
def yX6_air : MethodName := ⟨RX6, "air", "(DDD)V"⟩
abbrev cX6_vent : ByteArray := prog_1_method_5_code
def yX6_vent : MethodName := ⟨RX6, "vent", "(D)V"⟩
abbrev cX6_soak : ByteArray := prog_1_method_6_code
def yX6_soak : MethodName := ⟨RX6, "soak", "(IID)V"⟩
abbrev cX6_unit : ByteArray := prog_1_method_7_code
def yX6_unit : MethodName := ⟨RX6, "unit", "(I)Z"⟩
abbrev cX6_schedule : ByteArray := prog_1_method_8_code
def yX6_schedule : MethodName := ⟨RX6, "schedule", "()I"⟩
abbrev cX6_run : ByteArray := prog_1_method_9_code
def yX6_run : MethodName := ⟨RX6, "run", "(I)I"⟩
abbrev cX6_limit : ByteArray := prog_1_method_10_code
def yX6_limit : MethodName := ⟨RX6, "limit", "(ID)V"⟩
abbrev cX6_check : ByteArray := prog_1_method_11_code
def yX6_check : MethodName := ⟨RX6, "check", "(I)I"⟩
abbrev cX6_wet : ByteArray := prog_1_method_12_code
def yX6_wet : MethodName := ⟨RX6, "wet", "(II)D"⟩
abbrev cX6_mean : ByteArray := prog_1_method_13_code
def yX6_mean : MethodName := ⟨RX6, "mean", "(I)D"⟩
abbrev cX6_stress : ByteArray := prog_1_method_14_code
def yX6_stress : MethodName := ⟨RX6, "stress", "(II)D"⟩
abbrev cX6_balance : ByteArray := prog_1_method_15_code
def yX6_balance : MethodName := ⟨RX6, "balance", "()D"⟩
abbrev cX6_told : ByteArray := prog_1_method_16_code
def yX6_told : MethodName := ⟨RX6, "told", "(I)D"⟩
abbrev cX6_grams : ByteArray := prog_1_method_17_code
def yX6_grams : MethodName := ⟨RX6, "grams", "()J"⟩
abbrev cX6_count : ByteArray := prog_1_method_18_code
def yX6_count : MethodName := ⟨RX6, "count", "(I)I"⟩
abbrev cX6_slotOf : ByteArray := prog_1_method_19_code
def yX6_slotOf : MethodName := ⟨RX6, "slotOf", "(I)LLayerMoisture$Board;"⟩
abbrev cX6_boardThere : ByteArray := prog_1_method_20_code
def yX6_boardThere : MethodName := ⟨RX6, "boardThere", "(I)LLayerMoisture$Board;"⟩
abbrev cX6_kindOf : ByteArray := prog_1_method_21_code
def yX6_kindOf : MethodName := ⟨RX6, "kindOf", "(I)LLayerMoisture$Kind;"⟩
abbrev cX6_requireLayer : ByteArray := prog_1_method_22_code
def yX6_requireLayer : MethodName := ⟨RX6, "requireLayer", "(I)V"⟩
abbrev cX6_requireThere : ByteArray := prog_1_method_23_code
def yX6_requireThere : MethodName := ⟨RX6, "requireThere", "(LLayerMoisture$Board;)V"⟩
abbrev cX6_requireWithin : ByteArray := prog_1_method_24_code
def yX6_requireWithin : MethodName := ⟨RX6, "requireWithin", "(DDD)V"⟩
abbrev cX6_boardsThere : ByteArray := prog_1_method_25_code
def yX6_boardsThere : MethodName := ⟨RX6, "boardsThere", "()I"⟩
abbrev cX6_isRefused : ByteArray := prog_1_method_26_code
def yX6_isRefused : MethodName := ⟨RX6, "isRefused", "()Z"⟩
abbrev cX6_passHour : ByteArray := prog_1_method_27_code
def yX6_passHour : MethodName := ⟨RX6, "passHour", "()V"⟩
abbrev cX6_followPlan : ByteArray := prog_1_method_28_code
def yX6_followPlan : MethodName := ⟨RX6, "followPlan", "()V"⟩
abbrev cX6_isStepDue : ByteArray := prog_1_method_29_code
def yX6_isStepDue : MethodName := ⟨RX6, "isStepDue", "(I)Z"⟩
abbrev cX6_isAnyWetterThan : ByteArray := prog_1_method_30_code
def yX6_isAnyWetterThan : MethodName := ⟨RX6, "isAnyWetterThan", "(D)Z"⟩
def RX7 : String := "LayerMoistureModel"
def TX7 : u_T := fun k => match k with
  | 0 => ("LayerMoistureModel", "thrown", "I", false)
  | 1 => ("LayerMoistureModel", "layers", "I", false)
  | 2 => ("LayerMoistureModel", "boards", "I", false)
  | 3 => ("LayerMoistureModel", "rateA", "[D", true)
  | 4 => ("LayerMoistureModel", "rateB", "[D", true)
  | 5 => ("LayerMoistureModel", "kelvin", "D", false)
  | 6 => ("LayerMoistureModel", "damp", "D", false)
  | 7 => ("LayerMoistureModel", "speed", "D", false)
  | 8 => ("LayerMoistureModel", "vent", "D", false)
  | 9 => ("LayerMoistureModel", "left", "D", false)
  | 10 => ("LayerMoistureModel", "gone", "J", false)
  | 11 => ("LayerMoistureModel", "hours", "I", false)
  | 12 => ("LayerMoistureModel", "there", "[Z", true)
  | 13 => ("LayerMoistureModel", "depths", "[D", true)
  | 14 => ("LayerMoistureModel", "kinds", "[I", true)
  | 15 => ("LayerMoistureModel", "wets", "[D", true)
  | 16 => ("LayerMoistureModel", "next", "[D", true)
  | 17 => ("LayerMoistureModel", "limited", "[Z", true)
  | 18 => ("LayerMoistureModel", "limits", "[D", true)
  | 19 => ("LayerMoistureModel", "kept", "[I", true)
  | 20 => ("LayerMoistureModel", "text", "[I", true)
  | 21 => ("LayerMoistureModel", "typed", "I", false)
  | 22 => ("LayerMoistureModel", "at", "I", false)
  | 23 => ("LayerMoistureModel", "bad", "I", false)
  | 24 => ("LayerMoistureModel", "number", "I", false)
  | 25 => ("LayerMoistureModel", "byWet", "[Z", true)
  | 26 => ("LayerMoistureModel", "times", "[I", true)
  | 27 => ("LayerMoistureModel", "kelvins", "[I", true)
  | 28 => ("LayerMoistureModel", "damps", "[I", true)
  | 29 => ("LayerMoistureModel", "steps", "I", false)
  | _ => ("LayerMoistureModel", "done", "I", false)
def tyX7 : Nat → FieldType := fun k => match k with
  | 0 => .int
  | 1 => .int
  | 2 => .int
  | 3 => .array .double
  | 4 => .array .double
  | 5 => .double
  | 6 => .double
  | 7 => .double
  | 8 => .double
  | 9 => .double
  | 10 => .long
  | 11 => .int
  | 12 => .array .boolean
  | 13 => .array .double
  | 14 => .array .int
  | 15 => .array .double
  | 16 => .array .double
  | 17 => .array .boolean
  | 18 => .array .double
  | 19 => .array .int
  | 20 => .array .int
  | 21 => .int
  | 22 => .int
  | 23 => .int
  | 24 => .int
  | 25 => .array .boolean
  | 26 => .array .int
  | 27 => .array .int
  | 28 => .array .int
  | 29 => .int
  | _ => .int
abbrev wsX70 : List Cond := u_ws RX7 TX7 31
theorem nmX7 : ∀ a, a < 31 → ∀ b, b < 31 → a ≠ b → (TX7 a).2.1 ≠ (TX7 b).2.1 := by decide +kernel
theorem tyX7_ok : ∀ k, k < 31 → parseFieldDescriptor (TX7 k).2.2.1 = some (tyX7 k) := by decide +kernel
abbrev cX7_init : ByteArray := prog_9_method_1_code
def yX7_init : MethodName := ⟨RX7, "<init>", "(II)V"⟩
abbrev cX7_thrown : ByteArray := prog_9_method_2_code
def yX7_thrown : MethodName := ⟨RX7, "thrown", "()I"⟩
abbrev cX7_noBoard : ByteArray := prog_9_method_3_code
def yX7_noBoard : MethodName := ⟨RX7, "noBoard", "(I)Z"⟩
abbrev cX7_noLayer : ByteArray := prog_9_method_4_code
def yX7_noLayer : MethodName := ⟨RX7, "noLayer", "(II)Z"⟩
abbrev cX7_isIn : ByteArray := prog_9_method_5_code
def yX7_isIn : MethodName := ⟨RX7, "isIn", "(DDD)Z"⟩
abbrev cX7_board : ByteArray := prog_9_method_6_code
def yX7_board : MethodName := ⟨RX7, "board", "(IDDI)V"⟩
abbrev cX7_rate : ByteArray := prog_9_method_7_code
def yX7_rate : MethodName := ⟨RX7, "rate", "(IDD)V"⟩
abbrev cX7_air : ByteArray := prog_9_method_8_code
def yX7_air : MethodName := ⟨RX7, "air", "(DDD)V"⟩
abbrev cX7_vent : ByteArray := prog_9_method_9_code
def yX7_vent : MethodName := ⟨RX7, "vent", "(D)V"⟩
abbrev cX7_soak : ByteArray := prog_9_method_10_code
def yX7_soak : MethodName := ⟨RX7, "soak", "(IID)V"⟩
abbrev cX7_unit : ByteArray := prog_9_method_11_code
def yX7_unit : MethodName := ⟨RX7, "unit", "(I)Z"⟩
abbrev cX7_fail : ByteArray := prog_9_method_12_code
def yX7_fail : MethodName := ⟨RX7, "fail", "(I)Z"⟩
abbrev cX7_pass : ByteArray := prog_9_method_13_code
def yX7_pass : MethodName := ⟨RX7, "pass", "(I)Z"⟩
abbrev cX7_isDigit : ByteArray := prog_9_method_14_code
def yX7_isDigit : MethodName := ⟨RX7, "isDigit", "()Z"⟩
abbrev cX7_passNumber : ByteArray := prog_9_method_15_code
def yX7_passNumber : MethodName := ⟨RX7, "passNumber", "(II)Z"⟩
abbrev cX7_passStep : ByteArray := prog_9_method_16_code
def yX7_passStep : MethodName := ⟨RX7, "passStep", "()Z"⟩
abbrev cX7_schedule : ByteArray := prog_9_method_17_code
def yX7_schedule : MethodName := ⟨RX7, "schedule", "()I"⟩
abbrev cX7_sumOf : ByteArray := prog_9_method_18_code
def yX7_sumOf : MethodName := ⟨RX7, "sumOf", "(I)D"⟩
abbrev cX7_meanOf : ByteArray := prog_9_method_19_code
def yX7_meanOf : MethodName := ⟨RX7, "meanOf", "(I)D"⟩
abbrev cX7_balanceNow : ByteArray := prog_9_method_20_code
def yX7_balanceNow : MethodName := ⟨RX7, "balanceNow", "()D"⟩
abbrev cX7_isRefused : ByteArray := prog_9_method_21_code
def yX7_isRefused : MethodName := ⟨RX7, "isRefused", "()Z"⟩
abbrev cX7_hasCome : ByteArray := prog_9_method_22_code
def yX7_hasCome : MethodName := ⟨RX7, "hasCome", "()Z"⟩
abbrev cX7_flow : ByteArray := prog_9_method_23_code
def yX7_flow : MethodName := ⟨RX7, "flow", "(II)D"⟩
abbrev cX7_hourOf : ByteArray := prog_9_method_24_code
def yX7_hourOf : MethodName := ⟨RX7, "hourOf", "(I)V"⟩
abbrev cX7_share : ByteArray := prog_9_method_25_code
def yX7_share : MethodName := ⟨RX7, "share", "(II)D"⟩
abbrev cX7_stressOf : ByteArray := prog_9_method_26_code
def yX7_stressOf : MethodName := ⟨RX7, "stressOf", "(II)D"⟩
abbrev cX7_keep : ByteArray := prog_9_method_27_code
def yX7_keep : MethodName := ⟨RX7, "keep", "(I)V"⟩
abbrev cX7_hour : ByteArray := prog_9_method_28_code
def yX7_hour : MethodName := ⟨RX7, "hour", "()V"⟩
abbrev cX7_run : ByteArray := prog_9_method_29_code
def yX7_run : MethodName := ⟨RX7, "run", "(I)I"⟩
abbrev cX7_limit : ByteArray := prog_9_method_30_code
def yX7_limit : MethodName := ⟨RX7, "limit", "(ID)V"⟩
abbrev cX7_isMissing : ByteArray := prog_9_method_31_code
def yX7_isMissing : MethodName := ⟨RX7, "isMissing", "(IZ)Z"⟩
abbrev cX7_check : ByteArray := prog_9_method_32_code
def yX7_check : MethodName := ⟨RX7, "check", "(I)I"⟩
abbrev cX7_wet : ByteArray := prog_9_method_33_code
def yX7_wet : MethodName := ⟨RX7, "wet", "(II)D"⟩
abbrev cX7_mean : ByteArray := prog_9_method_34_code
def yX7_mean : MethodName := ⟨RX7, "mean", "(I)D"⟩
abbrev cX7_stress : ByteArray := prog_9_method_35_code
def yX7_stress : MethodName := ⟨RX7, "stress", "(II)D"⟩
abbrev cX7_balance : ByteArray := prog_9_method_36_code
def yX7_balance : MethodName := ⟨RX7, "balance", "()D"⟩
abbrev cX7_told : ByteArray := prog_9_method_37_code
def yX7_told : MethodName := ⟨RX7, "told", "(I)D"⟩
abbrev cX7_grams : ByteArray := prog_9_method_38_code
def yX7_grams : MethodName := ⟨RX7, "grams", "()J"⟩
abbrev cX7_count : ByteArray := prog_9_method_39_code
def yX7_count : MethodName := ⟨RX7, "count", "(I)I"⟩
def RJx00060 : String := "java/lang/ArrayIndexOutOfBoundsException"
def TJx00060 : u_T := fun k => match k with
  | 0 => ("java/lang/Throwable", "cause", "Ljava/lang/Throwable;", false)
  | 1 => ("java/lang/Throwable", "stackTrace", "[Ljava/lang/StackTraceElement;", false)
  | 2 => ("java/lang/Throwable", "suppressedExceptions", "Ljava/util/List;", false)
  | 3 => ("java/lang/Throwable", "detailMessage", "Ljava/lang/String;", false)
  | 4 => ("java/lang/Throwable", "backtrace", "Ljava/lang/Object;", false)
  | _ => ("java/lang/Throwable", "depth", "I", false)
def tyJx00060 : Nat → FieldType := fun k => match k with
  | 0 => .object "java/lang/Throwable"
  | 1 => .array (.object "java/lang/StackTraceElement")
  | 2 => .object "java/util/List"
  | 3 => .object "java/lang/String"
  | 4 => .object "java/lang/Object"
  | _ => .int
abbrev wsJx000600 : List Cond := u_ws RJx00060 TJx00060 6
theorem nmJx00060 : ∀ a, a < 6 → ∀ b, b < 6 → a ≠ b → (TJx00060 a).2.1 ≠ (TJx00060 b).2.1 := by decide +kernel
theorem tyJx00060_ok : ∀ k, k < 6 → parseFieldDescriptor (TJx00060 k).2.2.1 = some (tyJx00060 k) := by decide +kernel
abbrev cJx00060_init_a7421 : ByteArray := prog_10_method_2_code
def yJx00060_init_a7421 : MethodName := ⟨RJx00060, "<init>", "(Ljava/lang/String;)V"⟩
def RJ9 : String := "java/lang/Math"
def TJ9 : u_T := fun k => match k with
  | _ => ("", "", "", false)
def tyJ9 : Nat → FieldType := fun k => match k with
  | _ => .int
abbrev wsJ90 : List Cond := u_ws RJ9 TJ9 0
theorem nmJ9 : ∀ a, a < 0 → ∀ b, b < 0 → a ≠ b → (TJ9 a).2.1 ≠ (TJ9 b).2.1 := by decide +kernel
theorem tyJ9_ok : ∀ k, k < 0 → parseFieldDescriptor (TJ9 k).2.2.1 = some (tyJ9 k) := by decide +kernel
abbrev cJ9_max_7cf53 : ByteArray := prog_15_method_65_code
def yJ9_max_7cf53 : MethodName := ⟨RJ9, "max", "(II)I"⟩
abbrev cJ9_min_7cf53 : ByteArray := prog_15_method_69_code
def yJ9_min_7cf53 : MethodName := ⟨RJ9, "min", "(II)I"⟩
def RJ0 : String := "java/lang/String"
def TJ0 : u_T := fun k => match k with
  | _ => ("", "", "", false)
def tyJ0 : Nat → FieldType := fun k => match k with
  | _ => .int
abbrev wsJ00 : List Cond := u_ws RJ0 TJ0 0
theorem nmJ0 : ∀ a, a < 0 → ∀ b, b < 0 → a ≠ b → (TJ0 a).2.1 ≠ (TJ0 b).2.1 := by decide +kernel
theorem tyJ0_ok : ∀ k, k < 0 → parseFieldDescriptor (TJ0 k).2.2.1 = some (tyJ0 k) := by decide +kernel
def RL : String := "LayerMoistureLaw"
abbrev cL_cell : ByteArray := method_2_code
def yL_cell : MethodName := ⟨RL, "cell", "([II)I"⟩
abbrev cL_board : ByteArray := method_3_code
def yL_board : MethodName := ⟨RL, "board", "(LLayerMoisture;IDDI)I"⟩
abbrev cL_rate : ByteArray := method_4_code
def yL_rate : MethodName := ⟨RL, "rate", "(LLayerMoisture;IDD)I"⟩
abbrev cL_air : ByteArray := method_5_code
def yL_air : MethodName := ⟨RL, "air", "(LLayerMoisture;DDD)I"⟩
abbrev cL_vent : ByteArray := method_6_code
def yL_vent : MethodName := ⟨RL, "vent", "(LLayerMoisture;D)I"⟩
abbrev cL_soak : ByteArray := method_7_code
def yL_soak : MethodName := ⟨RL, "soak", "(LLayerMoisture;IID)I"⟩
abbrev cL_run : ByteArray := method_8_code
def yL_run : MethodName := ⟨RL, "run", "(LLayerMoisture;I[J)I"⟩
abbrev cL_limit : ByteArray := method_9_code
def yL_limit : MethodName := ⟨RL, "limit", "(LLayerMoisture;ID)I"⟩
abbrev cL_check : ByteArray := method_10_code
def yL_check : MethodName := ⟨RL, "check", "(LLayerMoisture;I[J)I"⟩
abbrev cL_wet : ByteArray := method_11_code
def yL_wet : MethodName := ⟨RL, "wet", "(LLayerMoisture;II[D)I"⟩
abbrev cL_mean : ByteArray := method_12_code
def yL_mean : MethodName := ⟨RL, "mean", "(LLayerMoisture;I[D)I"⟩
abbrev cL_stress : ByteArray := method_13_code
def yL_stress : MethodName := ⟨RL, "stress", "(LLayerMoisture;II[D)I"⟩
abbrev cL_told : ByteArray := method_14_code
def yL_told : MethodName := ⟨RL, "told", "(LLayerMoisture;I[D)I"⟩
abbrev cL_count : ByteArray := method_15_code
def yL_count : MethodName := ⟨RL, "count", "(LLayerMoisture;I[J)I"⟩
abbrev cL_law : ByteArray := code
def yL_law : MethodName := ⟨RL, "law", "([I)Z"⟩
def wsX0_init : List Cond := .code yX0_init cX0_init 1 none :: ([.methodLink RX0 1 objectInit, .instanceMethod objectInit, .code objectInit ⟨#[0xb1]⟩ 1 none, .constantDouble RX0 7 (4643862126702624768), .fieldLink RX0 9 "LayerMoisture$Air" "kelvin" "D", .constantDouble RX0 15 (4602678819172646912), .fieldLink RX0 17 "LayerMoisture$Air" "damp" "D", .fieldLink RX0 20 "LayerMoisture$Air" "speed" "D", .fieldLink RX0 23 "LayerMoisture$Air" "ventShare" "D"] ++ wsX00)
def wsX0_balanceNow : List Cond := .code yX0_balanceNow cX0_balanceNow 1 (some .double) :: ([.constantDouble RX0 26 (4600427019358961664), .fieldLink RX0 17 "LayerMoisture$Air" "damp" "D", .fieldLink RX0 9 "LayerMoisture$Air" "kelvin" "D", .constantDouble RX0 28 (4643510282981736448), .constantDouble RX0 30 (4643211215818981376)] ++ wsX00)
def wsX0_takeUp : List Cond := .code yX0_takeUp cX0_takeUp 5 none :: ([.fieldLink RX0 17 "LayerMoisture$Air" "damp" "D", .constantDouble RX0 32 (4679240012837945344), .fieldLink RX0 23 "LayerMoisture$Air" "ventShare" "D"] ++ wsX00)
def wsX1_init : List Cond := .code yX1_init cX1_init 3 none :: ([.methodLink RX1 3 objectInit, .instanceMethod objectInit, .code objectInit ⟨#[0xb1]⟩ 1 none, .arrayClass .double, .fieldLink RX1 9 "LayerMoisture$Board" "wetness" "[D", .fieldLink RX1 15 "LayerMoisture$Board" "kind" "LLayerMoisture$Kind;"] ++ wsX10)
def wsX1_lay : List Cond := .code yX1_lay cX1_lay 7 none :: ([.fieldLink RX1 19 "LayerMoisture$Board" "there" "Z", .fieldLink RX1 9 "LayerMoisture$Board" "wetness" "[D", .fieldLink RX1 23 "LayerMoisture$Board" "depth" "D", .fieldLink RX1 15 "LayerMoisture$Board" "kind" "LLayerMoisture$Kind;", .fieldLink RX1 27 "LayerMoisture$Board" "limited" "Z", .fieldLink RX1 30 "LayerMoisture$Board" "keptHour" "I"] ++ wsX10)
def wsX1_setLimit : List Cond := .code yX1_setLimit cX1_setLimit 3 none :: ([.fieldLink RX1 27 "LayerMoisture$Board" "limited" "Z", .fieldLink RX1 34 "LayerMoisture$Board" "loadLimit" "D", .fieldLink RX1 30 "LayerMoisture$Board" "keptHour" "I"] ++ wsX10)
def wsX1_meanWetness : List Cond := .code yX1_meanWetness cX1_meanWetness 4 (some .double) :: ([.fieldLink RX1 9 "LayerMoisture$Board" "wetness" "[D"] ++ wsX10)
def wsX1_greatestWetness : List Cond := .code yX1_greatestWetness cX1_greatestWetness 4 (some .double) :: ([.fieldLink RX1 9 "LayerMoisture$Board" "wetness" "[D"] ++ wsX10)
def wsX2_speedAt : List Cond := .code yX2_speedAt cX2_speedAt 3 (some .double) :: ([.fieldLink RX2 7 "LayerMoisture$Kind" "a" "D", .fieldLink RX2 13 "LayerMoisture$Kind" "b" "D"] ++ wsX20)
def wsX1_refuses : List Cond := .code yX1_refuses cX1_refuses 3 (some .boolean) :: ([.constantDouble RX1 37 (4620693217682128896), .fieldLink RX1 23 "LayerMoisture$Board" "depth" "D", .constantDouble RX1 39 (4598175219545276416), .fieldLink RX1 15 "LayerMoisture$Board" "kind" "LLayerMoisture$Kind;", .methodLink RX1 41 yX1_greatestWetness, .instanceMethod yX1_greatestWetness, .selects RX1 yX1_greatestWetness yX1_greatestWetness, .initialized RX1, .code yX1_greatestWetness cX1_greatestWetness 4 (some .double), .fieldLink RX1 9 "LayerMoisture$Board" "wetness" "[D", .methodLink RX1 45 yX2_speedAt, .instanceMethod yX2_speedAt, .selects RX2 yX2_speedAt yX2_speedAt, .initialized RX2, .code yX2_speedAt cX2_speedAt 3 (some .double), .fieldLink RX2 7 "LayerMoisture$Kind" "a" "D", .fieldLink RX2 13 "LayerMoisture$Kind" "b" "D"] ++ wsX10 ++ wsX20)
def wsX1_faceFlow : List Cond := .code yX1_faceFlow cX1_faceFlow 7 (some .double) :: ([.constantDouble RX1 37 (4620693217682128896), .fieldLink RX1 23 "LayerMoisture$Board" "depth" "D"] ++ wsX10)
def wsX1_slopeFlow : List Cond := .code yX1_slopeFlow cX1_slopeFlow 5 (some .double) :: ([.fieldLink RX1 15 "LayerMoisture$Board" "kind" "LLayerMoisture$Kind;", .constantDouble RX1 61 (4611686018427387904), .fieldLink RX1 23 "LayerMoisture$Board" "depth" "D", .methodLink RX1 45 yX2_speedAt, .instanceMethod yX2_speedAt, .selects RX2 yX2_speedAt yX2_speedAt, .initialized RX2, .code yX2_speedAt cX2_speedAt 3 (some .double), .fieldLink RX2 7 "LayerMoisture$Kind" "a" "D", .fieldLink RX2 13 "LayerMoisture$Kind" "b" "D"] ++ wsX10 ++ wsX20)
def wsX1_dry : List Cond := .code yX1_dry cX1_dry 15 (some .double) :: ([.fieldLink RX1 9 "LayerMoisture$Board" "wetness" "[D", .fieldLink RX1 23 "LayerMoisture$Board" "depth" "D", .constantDouble RX1 59 (4634204016564240384), .methodLink RX1 51 yX1_faceFlow, .instanceMethod yX1_faceFlow, .selects RX1 yX1_faceFlow yX1_faceFlow, .initialized RX1, .code yX1_faceFlow cX1_faceFlow 7 (some .double), .constantDouble RX1 37 (4620693217682128896), .methodLink RX1 55 yX1_slopeFlow, .instanceMethod yX1_slopeFlow, .selects RX1 yX1_slopeFlow yX1_slopeFlow, .code yX1_slopeFlow cX1_slopeFlow 5 (some .double), .fieldLink RX1 15 "LayerMoisture$Board" "kind" "LLayerMoisture$Kind;", .constantDouble RX1 61 (4611686018427387904), .methodLink RX1 45 yX2_speedAt, .instanceMethod yX2_speedAt, .selects RX2 yX2_speedAt yX2_speedAt, .initialized RX2, .code yX2_speedAt cX2_speedAt 3 (some .double), .fieldLink RX2 7 "LayerMoisture$Kind" "a" "D", .fieldLink RX2 13 "LayerMoisture$Kind" "b" "D"] ++ wsX10 ++ wsX20)
def wsX1_shrinkage : List Cond := .code yX1_shrinkage cX1_shrinkage 2 (some .double) :: ([.constantDouble RX1 39 (4598175219545276416), .constantDouble RX1 63 (4599301119452119040)])
def wsX1_meanShrinkage : List Cond := .code yX1_meanShrinkage cX1_meanShrinkage 4 (some .double) :: ([.fieldLink RX1 9 "LayerMoisture$Board" "wetness" "[D", .methodLink RX1 65 yX1_shrinkage, .static yX1_shrinkage, .initialized RX1, .code yX1_shrinkage cX1_shrinkage 2 (some .double), .constantDouble RX1 39 (4598175219545276416), .constantDouble RX1 63 (4599301119452119040)] ++ wsX10)
def wsX1_greatestLoad : List Cond := .code yX1_greatestLoad cX1_greatestLoad 10 (some .double) :: ([.fieldLink RX1 9 "LayerMoisture$Board" "wetness" "[D", .methodLink RX1 68 yX1_meanShrinkage, .instanceMethod yX1_meanShrinkage, .selects RX1 yX1_meanShrinkage yX1_meanShrinkage, .initialized RX1, .code yX1_meanShrinkage cX1_meanShrinkage 4 (some .double), .methodLink RX1 65 yX1_shrinkage, .static yX1_shrinkage, .code yX1_shrinkage cX1_shrinkage 2 (some .double), .constantDouble RX1 39 (4598175219545276416), .constantDouble RX1 63 (4599301119452119040)] ++ wsX10)
def wsX1_watchLoad : List Cond := .code yX1_watchLoad cX1_watchLoad 2 none :: ([.fieldLink RX1 27 "LayerMoisture$Board" "limited" "Z", .fieldLink RX1 30 "LayerMoisture$Board" "keptHour" "I", .fieldLink RX1 34 "LayerMoisture$Board" "loadLimit" "D", .methodLink RX1 71 yX1_greatestLoad, .instanceMethod yX1_greatestLoad, .selects RX1 yX1_greatestLoad yX1_greatestLoad, .initialized RX1, .code yX1_greatestLoad cX1_greatestLoad 10 (some .double), .fieldLink RX1 9 "LayerMoisture$Board" "wetness" "[D", .methodLink RX1 68 yX1_meanShrinkage, .instanceMethod yX1_meanShrinkage, .selects RX1 yX1_meanShrinkage yX1_meanShrinkage, .code yX1_meanShrinkage cX1_meanShrinkage 4 (some .double), .methodLink RX1 65 yX1_shrinkage, .static yX1_shrinkage, .code yX1_shrinkage cX1_shrinkage 2 (some .double), .constantDouble RX1 39 (4598175219545276416), .constantDouble RX1 63 (4599301119452119040)] ++ wsX10)
def wsX2_init : List Cond := .code yX2_init cX2_init 1 none :: ([.methodLink RX2 1 objectInit, .instanceMethod objectInit, .code objectInit ⟨#[0xb1]⟩ 1 none])
def wsX3_init : List Cond := .code yX3_init cX3_init 1 none :: ([.methodLink RX3 1 objectInit, .instanceMethod objectInit, .code objectInit ⟨#[0xb1]⟩ 1 none])
def wsX3_take : List Cond := .code yX3_take cX3_take 5 none :: ([.fieldLink RX3 7 "LayerMoisture$Ledger" "rest" "D", .fieldLink RX3 13 "LayerMoisture$Ledger" "gone" "J"] ++ wsX30)
def wsX4_init : List Cond := .code yX4_init cX4_init 1 none :: ([.methodLink RX4 3 objectInit, .instanceMethod objectInit, .code objectInit ⟨#[0xb1]⟩ 1 none, .arrayClass .boolean, .fieldLink RX4 11 "LayerMoisture$Plan" "byHours" "[Z", .arrayClass .int, .fieldLink RX4 15 "LayerMoisture$Plan" "times" "[I", .fieldLink RX4 19 "LayerMoisture$Plan" "kelvins" "[I", .fieldLink RX4 22 "LayerMoisture$Plan" "damps" "[I"] ++ wsX40)
def wsX5_isAtEnd : List Cond := .code yX5_isAtEnd cX5_isAtEnd 1 (some .boolean) :: ([.fieldLink RX5 19 "LayerMoisture$Text" "place" "I", .fieldLink RX5 15 "LayerMoisture$Text" "length" "I"] ++ wsX50)
def wsX5_next : List Cond := .code yX5_next cX5_next 1 (some .char) :: ([.fieldLink RX5 11 "LayerMoisture$Text" "units" "[C", .fieldLink RX5 19 "LayerMoisture$Text" "place" "I", .methodLink RX5 22 yX5_isAtEnd, .instanceMethod yX5_isAtEnd, .selects RX5 yX5_isAtEnd yX5_isAtEnd, .initialized RX5, .code yX5_isAtEnd cX5_isAtEnd 1 (some .boolean), .fieldLink RX5 15 "LayerMoisture$Text" "length" "I"] ++ wsX50)
def wsX5_pass : List Cond := .code yX5_pass cX5_pass 2 (some .boolean) :: ([.fieldLink RX5 19 "LayerMoisture$Text" "place" "I", .methodLink RX5 26 yX5_next, .instanceMethod yX5_next, .selects RX5 yX5_next yX5_next, .initialized RX5, .code yX5_next cX5_next 1 (some .char), .fieldLink RX5 11 "LayerMoisture$Text" "units" "[C", .methodLink RX5 22 yX5_isAtEnd, .instanceMethod yX5_isAtEnd, .selects RX5 yX5_isAtEnd yX5_isAtEnd, .code yX5_isAtEnd cX5_isAtEnd 1 (some .boolean), .fieldLink RX5 15 "LayerMoisture$Text" "length" "I"] ++ wsX50)
def wsX5_isAtDigit : List Cond := .code yX5_isAtDigit cX5_isAtDigit 1 (some .boolean) :: ([.methodLink RX5 26 yX5_next, .instanceMethod yX5_next, .selects RX5 yX5_next yX5_next, .initialized RX5, .code yX5_next cX5_next 1 (some .char), .fieldLink RX5 11 "LayerMoisture$Text" "units" "[C", .fieldLink RX5 19 "LayerMoisture$Text" "place" "I", .methodLink RX5 22 yX5_isAtEnd, .instanceMethod yX5_isAtEnd, .selects RX5 yX5_isAtEnd yX5_isAtEnd, .code yX5_isAtEnd cX5_isAtEnd 1 (some .boolean), .fieldLink RX5 15 "LayerMoisture$Text" "length" "I"] ++ wsX50)
def wsX5_readNumber : List Cond := .code yX5_readNumber cX5_readNumber 6 (some .int) :: ([.fieldLink RX5 19 "LayerMoisture$Text" "place" "I", .methodLink RX5 30 yX5_isAtDigit, .instanceMethod yX5_isAtDigit, .selects RX5 yX5_isAtDigit yX5_isAtDigit, .initialized RX5, .code yX5_isAtDigit cX5_isAtDigit 1 (some .boolean), .methodLink RX5 26 yX5_next, .instanceMethod yX5_next, .selects RX5 yX5_next yX5_next, .code yX5_next cX5_next 1 (some .char), .fieldLink RX5 11 "LayerMoisture$Text" "units" "[C", .methodLink RX5 22 yX5_isAtEnd, .instanceMethod yX5_isAtEnd, .selects RX5 yX5_isAtEnd yX5_isAtEnd, .code yX5_isAtEnd cX5_isAtEnd 1 (some .boolean), .fieldLink RX5 15 "LayerMoisture$Text" "length" "I"] ++ wsX50)
def wsX4_readStep_r1 : List Cond := [Cond.fieldLink RX4 11 "LayerMoisture$Plan" "byHours" "[Z", Cond.fieldLink RX4 15 "LayerMoisture$Plan" "times" "[I", Cond.fieldLink RX4 19 "LayerMoisture$Plan" "kelvins" "[I", Cond.fieldLink RX4 22 "LayerMoisture$Plan" "damps" "[I", Cond.methodLink RX4 56 yX5_next, Cond.instanceMethod yX5_next, Cond.selects RX5 yX5_next yX5_next, Cond.initialized RX5, Cond.code yX5_next cX5_next 1 (some .char), Cond.fieldLink RX5 11 "LayerMoisture$Text" "units" "[C", Cond.fieldLink RX5 19 "LayerMoisture$Text" "place" "I", Cond.methodLink RX5 22 yX5_isAtEnd, Cond.instanceMethod yX5_isAtEnd, Cond.selects RX5 yX5_isAtEnd yX5_isAtEnd, Cond.code yX5_isAtEnd cX5_isAtEnd 1 (some .boolean), Cond.fieldLink RX5 15 "LayerMoisture$Text" "length" "I", Cond.methodLink RX4 44 yX5_pass, Cond.instanceMethod yX5_pass, Cond.selects RX5 yX5_pass yX5_pass, Cond.code yX5_pass cX5_pass 2 (some .boolean), Cond.methodLink RX5 26 yX5_next, Cond.methodLink RX4 60 yX5_readNumber, Cond.instanceMethod yX5_readNumber, Cond.selects RX5 yX5_readNumber yX5_readNumber]
def wsX4_readStep_r2 : List Cond := [Cond.code yX5_readNumber cX5_readNumber 6 (some .int), Cond.methodLink RX5 30 yX5_isAtDigit, Cond.instanceMethod yX5_isAtDigit, Cond.selects RX5 yX5_isAtDigit yX5_isAtDigit, Cond.code yX5_isAtDigit cX5_isAtDigit 1 (some .boolean)]
def wsX4_readStep : List Cond := .code yX4_readStep cX4_readStep 3 (some .boolean) :: ((wsX4_readStep_r1 ++ wsX4_readStep_r2) ++ wsX40 ++ wsX50)
def wsX4_readSteps_r1 : List Cond := [Cond.methodLink RX4 44 yX5_pass, Cond.instanceMethod yX5_pass, Cond.selects RX5 yX5_pass yX5_pass, Cond.initialized RX5, Cond.code yX5_pass cX5_pass 2 (some .boolean), Cond.fieldLink RX5 19 "LayerMoisture$Text" "place" "I", Cond.methodLink RX5 26 yX5_next, Cond.instanceMethod yX5_next, Cond.selects RX5 yX5_next yX5_next, Cond.code yX5_next cX5_next 1 (some .char), Cond.fieldLink RX5 11 "LayerMoisture$Text" "units" "[C", Cond.methodLink RX5 22 yX5_isAtEnd, Cond.instanceMethod yX5_isAtEnd, Cond.selects RX5 yX5_isAtEnd yX5_isAtEnd, Cond.code yX5_isAtEnd cX5_isAtEnd 1 (some .boolean), Cond.fieldLink RX5 15 "LayerMoisture$Text" "length" "I", Cond.methodLink RX4 48 yX4_readStep, Cond.instanceMethod yX4_readStep, Cond.selects RX4 yX4_readStep yX4_readStep, Cond.initialized RX4, Cond.code yX4_readStep cX4_readStep 3 (some .boolean), Cond.fieldLink RX4 11 "LayerMoisture$Plan" "byHours" "[Z", Cond.fieldLink RX4 15 "LayerMoisture$Plan" "times" "[I", Cond.fieldLink RX4 19 "LayerMoisture$Plan" "kelvins" "[I"]
def wsX4_readSteps_r2 : List Cond := [Cond.fieldLink RX4 22 "LayerMoisture$Plan" "damps" "[I", Cond.methodLink RX4 56 yX5_next, Cond.methodLink RX4 60 yX5_readNumber, Cond.instanceMethod yX5_readNumber, Cond.selects RX5 yX5_readNumber yX5_readNumber, Cond.code yX5_readNumber cX5_readNumber 6 (some .int), Cond.methodLink RX5 30 yX5_isAtDigit, Cond.instanceMethod yX5_isAtDigit, Cond.selects RX5 yX5_isAtDigit yX5_isAtDigit, Cond.code yX5_isAtDigit cX5_isAtDigit 1 (some .boolean), Cond.methodLink RX4 52 yX5_isAtEnd]
def wsX4_readSteps : List Cond := .code yX4_readSteps cX4_readSteps 3 (some .int) :: ((wsX4_readSteps_r1 ++ wsX4_readSteps_r2) ++ wsX50 ++ wsX40)
def wsX5_empty : List Cond := .code yX5_empty cX5_empty 1 none :: ([.fieldLink RX5 15 "LayerMoisture$Text" "length" "I", .fieldLink RX5 19 "LayerMoisture$Text" "place" "I"] ++ wsX50)
def wsX4_readFrom_r1 : List Cond := [Cond.fieldLink RX4 29 "LayerMoisture$Text" "place" "I", Cond.fieldLink RX4 35 "LayerMoisture$Plan" "steps" "I", Cond.fieldLink RX4 38 "LayerMoisture$Plan" "done" "I", Cond.methodLink RX4 25 yX4_readSteps, Cond.instanceMethod yX4_readSteps, Cond.selects RX4 yX4_readSteps yX4_readSteps, Cond.initialized RX4, Cond.code yX4_readSteps cX4_readSteps 3 (some .int), Cond.methodLink RX4 44 yX5_pass, Cond.instanceMethod yX5_pass, Cond.selects RX5 yX5_pass yX5_pass, Cond.initialized RX5, Cond.code yX5_pass cX5_pass 2 (some .boolean), Cond.fieldLink RX5 19 "LayerMoisture$Text" "place" "I", Cond.methodLink RX5 26 yX5_next, Cond.instanceMethod yX5_next, Cond.selects RX5 yX5_next yX5_next, Cond.code yX5_next cX5_next 1 (some .char), Cond.fieldLink RX5 11 "LayerMoisture$Text" "units" "[C", Cond.methodLink RX5 22 yX5_isAtEnd, Cond.instanceMethod yX5_isAtEnd, Cond.selects RX5 yX5_isAtEnd yX5_isAtEnd, Cond.code yX5_isAtEnd cX5_isAtEnd 1 (some .boolean), Cond.fieldLink RX5 15 "LayerMoisture$Text" "length" "I"]
def wsX4_readFrom_r2 : List Cond := [Cond.methodLink RX4 48 yX4_readStep, Cond.instanceMethod yX4_readStep, Cond.selects RX4 yX4_readStep yX4_readStep, Cond.code yX4_readStep cX4_readStep 3 (some .boolean), Cond.fieldLink RX4 11 "LayerMoisture$Plan" "byHours" "[Z", Cond.fieldLink RX4 15 "LayerMoisture$Plan" "times" "[I", Cond.fieldLink RX4 19 "LayerMoisture$Plan" "kelvins" "[I", Cond.fieldLink RX4 22 "LayerMoisture$Plan" "damps" "[I", Cond.methodLink RX4 56 yX5_next, Cond.methodLink RX4 60 yX5_readNumber, Cond.instanceMethod yX5_readNumber, Cond.selects RX5 yX5_readNumber yX5_readNumber, Cond.code yX5_readNumber cX5_readNumber 6 (some .int), Cond.methodLink RX5 30 yX5_isAtDigit, Cond.instanceMethod yX5_isAtDigit, Cond.selects RX5 yX5_isAtDigit yX5_isAtDigit, Cond.code yX5_isAtDigit cX5_isAtDigit 1 (some .boolean), Cond.methodLink RX4 52 yX5_isAtEnd, Cond.methodLink RX4 41 yX5_empty, Cond.instanceMethod yX5_empty, Cond.selects RX5 yX5_empty yX5_empty, Cond.code yX5_empty cX5_empty 1 none]
def wsX4_readFrom : List Cond := .code yX4_readFrom cX4_readFrom 4 (some .int) :: ((wsX4_readFrom_r1 ++ wsX4_readFrom_r2) ++ wsX50 ++ wsX40)
def wsX5_init : List Cond := .code yX5_init cX5_init 1 none :: ([.methodLink RX5 3 objectInit, .instanceMethod objectInit, .code objectInit ⟨#[0xb1]⟩ 1 none, .arrayClass .char, .fieldLink RX5 11 "LayerMoisture$Text" "units" "[C"] ++ wsX50)
def wsX5_append : List Cond := .code yX5_append cX5_append 2 (some .boolean) :: ([.fieldLink RX5 15 "LayerMoisture$Text" "length" "I", .fieldLink RX5 11 "LayerMoisture$Text" "units" "[C"] ++ wsX50)
def wsX6_init_r1 : List Cond := [Cond.methodLink RX6 1 objectInit, Cond.instanceMethod objectInit, Cond.code objectInit ⟨#[0xb1]⟩ 1 none, Cond.methodLink RX6 9 Lib.Math.min.name, Cond.static Lib.Math.min.name, Cond.initialized "java/lang/Math", Cond.code Lib.Math.min.name Lib.Math.min.code 2 (some .int), Cond.methodLink RX6 15 Lib.Math.max.name, Cond.static Lib.Math.max.name, Cond.code Lib.Math.max.name Lib.Math.max.code 2 (some .int), Cond.fieldLink RX6 18 "LayerMoisture" "layerCount" "I", Cond.classLink RX6 22 RX2, Cond.fieldLink RX6 24 "LayerMoisture" "kinds" "[LLayerMoisture$Kind;", Cond.instantiable RX2 2, Cond.initialized RX2, Cond.classLink RX6 29 RX1, Cond.fieldLink RX6 31 "LayerMoisture" "boards" "[LLayerMoisture$Board;", Cond.instantiable RX1 7, Cond.initialized RX1, Cond.classLink RX6 38 RX0, Cond.instantiable RX0 4, Cond.initialized RX0, Cond.fieldLink RX6 41 "LayerMoisture" "state" "LLayerMoisture$Air;", Cond.classLink RX6 45 RX3]
def wsX6_init_r2 : List Cond := [Cond.instantiable RX3 2, Cond.initialized RX3, Cond.fieldLink RX6 48 "LayerMoisture" "ledger" "LLayerMoisture$Ledger;", Cond.classLink RX6 52 RX5, Cond.instantiable RX5 3, Cond.initialized RX5, Cond.fieldLink RX6 55 "LayerMoisture" "text" "LLayerMoisture$Text;", Cond.classLink RX6 59 RX4, Cond.instantiable RX4 6, Cond.initialized RX4, Cond.fieldLink RX6 62 "LayerMoisture" "plan" "LLayerMoisture$Plan;", Cond.instanceMethod yX2_init, Cond.code yX2_init cX2_init 1 none, Cond.methodLink RX2 1 objectInit, Cond.methodLink RX6 35 yX1_init, Cond.instanceMethod yX1_init, Cond.code yX1_init cX1_init 3 none, Cond.methodLink RX1 3 objectInit, Cond.arrayClass .double, Cond.fieldLink RX1 9 "LayerMoisture$Board" "wetness" "[D", Cond.fieldLink RX1 15 "LayerMoisture$Board" "kind" "LLayerMoisture$Kind;", Cond.instanceMethod yX0_init, Cond.code yX0_init cX0_init 1 none, Cond.methodLink RX0 1 objectInit]
def wsX6_init_r3 : List Cond := [Cond.constantDouble RX0 7 (4643862126702624768), Cond.fieldLink RX0 9 "LayerMoisture$Air" "kelvin" "D", Cond.constantDouble RX0 15 (4602678819172646912), Cond.fieldLink RX0 17 "LayerMoisture$Air" "damp" "D", Cond.fieldLink RX0 20 "LayerMoisture$Air" "speed" "D", Cond.fieldLink RX0 23 "LayerMoisture$Air" "ventShare" "D", Cond.instanceMethod yX3_init, Cond.code yX3_init cX3_init 1 none, Cond.methodLink RX3 1 objectInit, Cond.instanceMethod yX5_init, Cond.code yX5_init cX5_init 1 none, Cond.methodLink RX5 3 objectInit, Cond.arrayClass .char, Cond.fieldLink RX5 11 "LayerMoisture$Text" "units" "[C", Cond.instanceMethod yX4_init, Cond.code yX4_init cX4_init 1 none, Cond.methodLink RX4 3 objectInit, Cond.arrayClass .boolean, Cond.fieldLink RX4 11 "LayerMoisture$Plan" "byHours" "[Z", Cond.arrayClass .int, Cond.fieldLink RX4 15 "LayerMoisture$Plan" "times" "[I", Cond.fieldLink RX4 19 "LayerMoisture$Plan" "kelvins" "[I", Cond.fieldLink RX4 22 "LayerMoisture$Plan" "damps" "[I"]
def wsX6_init : List Cond := .code yX6_init cX6_init 4 none :: ((wsX6_init_r1 ++ (wsX6_init_r2 ++ wsX6_init_r3)) ++ wsX60 ++ wsX20 ++ wsX10 ++ wsX00 ++ wsX30 ++ wsX50 ++ wsX40)
def wsX6_slotOf : List Cond := .code yX6_slotOf cX6_slotOf 2 (some (.object "LayerMoisture$Board")) :: ([.fieldLink RX6 31 "LayerMoisture" "boards" "[LLayerMoisture$Board;", .classLink RX6 177 RJx00060, .instantiable RJx00060 6, .initialized RJx00060] ++ wsX60 ++ wsJx000600)
def wsX6_kindOf : List Cond := .code yX6_kindOf cX6_kindOf 2 (some (.object "LayerMoisture$Kind")) :: ([.fieldLink RX6 24 "LayerMoisture" "kinds" "[LLayerMoisture$Kind;", .classLink RX6 177 RJx00060, .instantiable RJx00060 6, .initialized RJx00060] ++ wsX60 ++ wsJx000600)
def wsX6_requireWithin : List Cond := .code yX6_requireWithin cX6_requireWithin 6 none :: ([.classLink RX6 131 "java/lang/IllegalArgumentException", .initialized "java/lang/IllegalArgumentException"] ++ (vx_atS RX6 135 "java/lang/IllegalArgumentException" ["java/lang/RuntimeException", "java/lang/Exception"]).filter goodWord)
def wsX6_board_r1 : List Cond := [Cond.constantDouble RX6 74 (4645744490609377280), Cond.constantDouble RX6 80 (4613937818241073152), Cond.methodLink RX6 66 yX6_slotOf, Cond.instanceMethod yX6_slotOf, Cond.selects RX6 yX6_slotOf yX6_slotOf, Cond.initialized RX6, Cond.code yX6_slotOf cX6_slotOf 2 (some (.object "LayerMoisture$Board")), Cond.fieldLink RX6 31 "LayerMoisture" "boards" "[LLayerMoisture$Board;", Cond.classLink RX6 177 RJx00060, Cond.instantiable RJx00060 6, Cond.initialized RJx00060, Cond.methodLink RX6 70 yX6_kindOf, Cond.instanceMethod yX6_kindOf, Cond.selects RX6 yX6_kindOf yX6_kindOf, Cond.code yX6_kindOf cX6_kindOf 2 (some (.object "LayerMoisture$Kind")), Cond.fieldLink RX6 24 "LayerMoisture" "kinds" "[LLayerMoisture$Kind;", Cond.methodLink RX6 76 yX6_requireWithin, Cond.static yX6_requireWithin, Cond.code yX6_requireWithin cX6_requireWithin 6 none, Cond.classLink RX6 131 "java/lang/IllegalArgumentException", Cond.initialized "java/lang/IllegalArgumentException", Cond.methodLink RX6 82 yX1_lay, Cond.instanceMethod yX1_lay, Cond.selects RX1 yX1_lay yX1_lay]
def wsX6_board_r2 : List Cond := [Cond.initialized RX1, Cond.code yX1_lay cX1_lay 7 none, Cond.fieldLink RX1 19 "LayerMoisture$Board" "there" "Z", Cond.fieldLink RX1 9 "LayerMoisture$Board" "wetness" "[D", Cond.fieldLink RX1 23 "LayerMoisture$Board" "depth" "D", Cond.fieldLink RX1 15 "LayerMoisture$Board" "kind" "LLayerMoisture$Kind;", Cond.fieldLink RX1 27 "LayerMoisture$Board" "limited" "Z", Cond.fieldLink RX1 30 "LayerMoisture$Board" "keptHour" "I"]
def wsX6_board : List Cond := .code yX6_board cX6_board 9 none :: ((wsX6_board_r1 ++ wsX6_board_r2) ++ wsX60 ++ wsJx000600 ++ wsX10 ++ (vx_atS RX6 135 "java/lang/IllegalArgumentException" ["java/lang/RuntimeException", "java/lang/Exception"]).filter goodWord)
def wsX6_rate : List Cond := .code yX6_rate cX6_rate 7 none :: ([.constantDouble RX6 86 (4620693217682128896), .fieldLink RX6 88 "LayerMoisture$Kind" "a" "D", .fieldLink RX6 92 "LayerMoisture$Kind" "b" "D", .methodLink RX6 70 yX6_kindOf, .instanceMethod yX6_kindOf, .selects RX6 yX6_kindOf yX6_kindOf, .initialized RX6, .code yX6_kindOf cX6_kindOf 2 (some (.object "LayerMoisture$Kind")), .fieldLink RX6 24 "LayerMoisture" "kinds" "[LLayerMoisture$Kind;", .classLink RX6 177 RJx00060, .instantiable RJx00060 6, .initialized RJx00060, .methodLink RX6 76 yX6_requireWithin, .static yX6_requireWithin, .code yX6_requireWithin cX6_requireWithin 6 none, .classLink RX6 131 "java/lang/IllegalArgumentException", .initialized "java/lang/IllegalArgumentException"] ++ wsX20 ++ wsX60 ++ wsJx000600 ++ (vx_atS RX6 135 "java/lang/IllegalArgumentException" ["java/lang/RuntimeException", "java/lang/Exception"]).filter goodWord)
def wsX6_air : List Cond := .code yX6_air cX6_air 7 none :: ([.constantDouble RX6 95 (4643000109586448384), .constantDouble RX6 74 (4645744490609377280), .constantDouble RX6 97 (4625196817309499392), .fieldLink RX6 41 "LayerMoisture" "state" "LLayerMoisture$Air;", .fieldLink RX6 99 "LayerMoisture$Air" "kelvin" "D", .fieldLink RX6 102 "LayerMoisture$Air" "damp" "D", .fieldLink RX6 105 "LayerMoisture$Air" "speed" "D", .methodLink RX6 76 yX6_requireWithin, .static yX6_requireWithin, .initialized RX6, .code yX6_requireWithin cX6_requireWithin 6 none, .classLink RX6 131 "java/lang/IllegalArgumentException", .initialized "java/lang/IllegalArgumentException"] ++ wsX60 ++ wsX00 ++ (vx_atS RX6 135 "java/lang/IllegalArgumentException" ["java/lang/RuntimeException", "java/lang/Exception"]).filter goodWord)
def wsX6_vent : List Cond := .code yX6_vent cX6_vent 3 none :: ([.fieldLink RX6 41 "LayerMoisture" "state" "LLayerMoisture$Air;", .fieldLink RX6 108 "LayerMoisture$Air" "ventShare" "D", .methodLink RX6 76 yX6_requireWithin, .static yX6_requireWithin, .initialized RX6, .code yX6_requireWithin cX6_requireWithin 6 none, .classLink RX6 131 "java/lang/IllegalArgumentException", .initialized "java/lang/IllegalArgumentException"] ++ wsX60 ++ wsX00 ++ (vx_atS RX6 135 "java/lang/IllegalArgumentException" ["java/lang/RuntimeException", "java/lang/Exception"]).filter goodWord)
def wsX6_requireLayer : List Cond := .code yX6_requireLayer cX6_requireLayer 2 none :: ([.fieldLink RX6 18 "LayerMoisture" "layerCount" "I", .classLink RX6 177 RJx00060, .instantiable RJx00060 6, .initialized RJx00060] ++ wsX60 ++ wsJx000600)
def wsX6_requireThere : List Cond := .code yX6_requireThere cX6_requireThere 1 none :: ([.classLink RX6 205 "java/lang/IllegalStateException", .initialized "java/lang/IllegalStateException", .fieldLink RX6 201 "LayerMoisture$Board" "there" "Z"] ++ wsX10 ++ (vx_atS RX6 209 "java/lang/IllegalStateException" ["java/lang/RuntimeException", "java/lang/Exception"]).filter goodWord)
def wsX6_soak_r1 : List Cond := [Cond.constantDouble RX6 80 (4613937818241073152), Cond.fieldLink RX6 119 "LayerMoisture$Board" "wetness" "[D", Cond.methodLink RX6 66 yX6_slotOf, Cond.instanceMethod yX6_slotOf, Cond.selects RX6 yX6_slotOf yX6_slotOf, Cond.initialized RX6, Cond.code yX6_slotOf cX6_slotOf 2 (some (.object "LayerMoisture$Board")), Cond.fieldLink RX6 31 "LayerMoisture" "boards" "[LLayerMoisture$Board;", Cond.classLink RX6 177 RJx00060, Cond.instantiable RJx00060 6, Cond.initialized RJx00060, Cond.methodLink RX6 111 yX6_requireLayer, Cond.instanceMethod yX6_requireLayer, Cond.selects RX6 yX6_requireLayer yX6_requireLayer, Cond.code yX6_requireLayer cX6_requireLayer 2 none, Cond.fieldLink RX6 18 "LayerMoisture" "layerCount" "I", Cond.methodLink RX6 76 yX6_requireWithin, Cond.static yX6_requireWithin, Cond.code yX6_requireWithin cX6_requireWithin 6 none, Cond.classLink RX6 131 "java/lang/IllegalArgumentException", Cond.initialized "java/lang/IllegalArgumentException", Cond.methodLink RX6 115 yX6_requireThere, Cond.static yX6_requireThere, Cond.code yX6_requireThere cX6_requireThere 1 none]
def wsX6_soak_r2 : List Cond := [Cond.classLink RX6 205 "java/lang/IllegalStateException", Cond.initialized "java/lang/IllegalStateException", Cond.fieldLink RX6 201 "LayerMoisture$Board" "there" "Z"]
def wsX6_soak : List Cond := .code yX6_soak cX6_soak 6 none :: ((wsX6_soak_r1 ++ wsX6_soak_r2) ++ wsX10 ++ wsX60 ++ wsJx000600 ++ (vx_atS RX6 135 "java/lang/IllegalArgumentException" ["java/lang/RuntimeException", "java/lang/Exception"]).filter goodWord ++ (vx_atS RX6 209 "java/lang/IllegalStateException" ["java/lang/RuntimeException", "java/lang/Exception"]).filter goodWord)
def wsX6_unit : List Cond := .code yX6_unit cX6_unit 2 (some .boolean) :: ([.fieldLink RX6 55 "LayerMoisture" "text" "LLayerMoisture$Text;", .methodLink RX6 123 yX5_append, .instanceMethod yX5_append, .selects RX5 yX5_append yX5_append, .initialized RX5, .code yX5_append cX5_append 2 (some .boolean), .fieldLink RX5 15 "LayerMoisture$Text" "length" "I", .fieldLink RX5 11 "LayerMoisture$Text" "units" "[C"] ++ wsX60 ++ wsX50)
def wsX6_schedule_r1 : List Cond := [Cond.fieldLink RX6 62 "LayerMoisture" "plan" "LLayerMoisture$Plan;", Cond.fieldLink RX6 55 "LayerMoisture" "text" "LLayerMoisture$Text;", Cond.methodLink RX6 127 yX4_readFrom, Cond.instanceMethod yX4_readFrom, Cond.selects RX4 yX4_readFrom yX4_readFrom, Cond.initialized RX4, Cond.code yX4_readFrom cX4_readFrom 4 (some .int), Cond.fieldLink RX4 29 "LayerMoisture$Text" "place" "I", Cond.fieldLink RX4 35 "LayerMoisture$Plan" "steps" "I", Cond.fieldLink RX4 38 "LayerMoisture$Plan" "done" "I", Cond.methodLink RX4 25 yX4_readSteps, Cond.instanceMethod yX4_readSteps, Cond.selects RX4 yX4_readSteps yX4_readSteps, Cond.code yX4_readSteps cX4_readSteps 3 (some .int), Cond.methodLink RX4 44 yX5_pass, Cond.instanceMethod yX5_pass, Cond.selects RX5 yX5_pass yX5_pass, Cond.initialized RX5, Cond.code yX5_pass cX5_pass 2 (some .boolean), Cond.fieldLink RX5 19 "LayerMoisture$Text" "place" "I", Cond.methodLink RX5 26 yX5_next, Cond.instanceMethod yX5_next, Cond.selects RX5 yX5_next yX5_next, Cond.code yX5_next cX5_next 1 (some .char)]
def wsX6_schedule_r2 : List Cond := [Cond.fieldLink RX5 11 "LayerMoisture$Text" "units" "[C", Cond.methodLink RX5 22 yX5_isAtEnd, Cond.instanceMethod yX5_isAtEnd, Cond.selects RX5 yX5_isAtEnd yX5_isAtEnd, Cond.code yX5_isAtEnd cX5_isAtEnd 1 (some .boolean), Cond.fieldLink RX5 15 "LayerMoisture$Text" "length" "I", Cond.methodLink RX4 48 yX4_readStep, Cond.instanceMethod yX4_readStep, Cond.selects RX4 yX4_readStep yX4_readStep, Cond.code yX4_readStep cX4_readStep 3 (some .boolean), Cond.fieldLink RX4 11 "LayerMoisture$Plan" "byHours" "[Z", Cond.fieldLink RX4 15 "LayerMoisture$Plan" "times" "[I", Cond.fieldLink RX4 19 "LayerMoisture$Plan" "kelvins" "[I", Cond.fieldLink RX4 22 "LayerMoisture$Plan" "damps" "[I", Cond.methodLink RX4 56 yX5_next, Cond.methodLink RX4 60 yX5_readNumber, Cond.instanceMethod yX5_readNumber, Cond.selects RX5 yX5_readNumber yX5_readNumber, Cond.code yX5_readNumber cX5_readNumber 6 (some .int), Cond.methodLink RX5 30 yX5_isAtDigit, Cond.instanceMethod yX5_isAtDigit, Cond.selects RX5 yX5_isAtDigit yX5_isAtDigit, Cond.code yX5_isAtDigit cX5_isAtDigit 1 (some .boolean), Cond.methodLink RX4 52 yX5_isAtEnd]
def wsX6_schedule_r3 : List Cond := [Cond.methodLink RX4 41 yX5_empty, Cond.instanceMethod yX5_empty, Cond.selects RX5 yX5_empty yX5_empty, Cond.code yX5_empty cX5_empty 1 none]
def wsX6_schedule : List Cond := .code yX6_schedule cX6_schedule 1 (some .int) :: ((wsX6_schedule_r1 ++ (wsX6_schedule_r2 ++ wsX6_schedule_r3)) ++ wsX60 ++ wsX50 ++ wsX40)
def wsX6_isRefused_r1 : List Cond := [Cond.fieldLink RX6 31 "LayerMoisture" "boards" "[LLayerMoisture$Board;", Cond.fieldLink RX6 201 "LayerMoisture$Board" "there" "Z", Cond.fieldLink RX6 41 "LayerMoisture" "state" "LLayerMoisture$Air;", Cond.fieldLink RX6 105 "LayerMoisture$Air" "speed" "D", Cond.methodLink RX6 212 yX1_refuses, Cond.instanceMethod yX1_refuses, Cond.selects RX1 yX1_refuses yX1_refuses, Cond.initialized RX1, Cond.code yX1_refuses cX1_refuses 3 (some .boolean), Cond.constantDouble RX1 37 (4620693217682128896), Cond.fieldLink RX1 23 "LayerMoisture$Board" "depth" "D", Cond.constantDouble RX1 39 (4598175219545276416), Cond.fieldLink RX1 15 "LayerMoisture$Board" "kind" "LLayerMoisture$Kind;", Cond.methodLink RX1 41 yX1_greatestWetness, Cond.instanceMethod yX1_greatestWetness, Cond.selects RX1 yX1_greatestWetness yX1_greatestWetness, Cond.code yX1_greatestWetness cX1_greatestWetness 4 (some .double), Cond.fieldLink RX1 9 "LayerMoisture$Board" "wetness" "[D", Cond.methodLink RX1 45 yX2_speedAt, Cond.instanceMethod yX2_speedAt, Cond.selects RX2 yX2_speedAt yX2_speedAt, Cond.initialized RX2, Cond.code yX2_speedAt cX2_speedAt 3 (some .double), Cond.fieldLink RX2 7 "LayerMoisture$Kind" "a" "D"]
def wsX6_isRefused_r2 : List Cond := [Cond.fieldLink RX2 13 "LayerMoisture$Kind" "b" "D"]
def wsX6_isRefused : List Cond := .code yX6_isRefused cX6_isRefused 2 (some .boolean) :: ((wsX6_isRefused_r1 ++ wsX6_isRefused_r2) ++ wsX60 ++ wsX10 ++ wsX00 ++ wsX20)
def wsX6_boardsThere : List Cond := .code yX6_boardsThere cX6_boardsThere 3 (some .int) :: ([.fieldLink RX6 31 "LayerMoisture" "boards" "[LLayerMoisture$Board;", .fieldLink RX6 201 "LayerMoisture$Board" "there" "Z"] ++ wsX60 ++ wsX10)
def wsX6_isAnyWetterThan : List Cond := .code yX6_isAnyWetterThan cX6_isAnyWetterThan 4 (some .boolean) :: ([.fieldLink RX6 31 "LayerMoisture" "boards" "[LLayerMoisture$Board;", .fieldLink RX6 201 "LayerMoisture$Board" "there" "Z", .methodLink RX6 160 yX1_meanWetness, .instanceMethod yX1_meanWetness, .selects RX1 yX1_meanWetness yX1_meanWetness, .initialized RX1, .code yX1_meanWetness cX1_meanWetness 4 (some .double), .fieldLink RX1 9 "LayerMoisture$Board" "wetness" "[D"] ++ wsX60 ++ wsX10)
def wsX6_isStepDue : List Cond := .code yX6_isStepDue cX6_isStepDue 2 (some .boolean) :: ([.fieldLink RX6 62 "LayerMoisture" "plan" "LLayerMoisture$Plan;", .fieldLink RX6 247 "LayerMoisture$Plan" "byHours" "[Z", .fieldLink RX6 142 "LayerMoisture" "hoursPassed" "I", .fieldLink RX6 251 "LayerMoisture$Plan" "times" "[I", .constantDouble RX6 245 (4636737291354636288), .methodLink RX6 189 yX6_boardsThere, .instanceMethod yX6_boardsThere, .selects RX6 yX6_boardsThere yX6_boardsThere, .initialized RX6, .code yX6_boardsThere cX6_boardsThere 3 (some .int), .fieldLink RX6 31 "LayerMoisture" "boards" "[LLayerMoisture$Board;", .fieldLink RX6 201 "LayerMoisture$Board" "there" "Z", .methodLink RX6 254 yX6_isAnyWetterThan, .instanceMethod yX6_isAnyWetterThan, .selects RX6 yX6_isAnyWetterThan yX6_isAnyWetterThan, .code yX6_isAnyWetterThan cX6_isAnyWetterThan 4 (some .boolean), .methodLink RX6 160 yX1_meanWetness, .instanceMethod yX1_meanWetness, .selects RX1 yX1_meanWetness yX1_meanWetness, .initialized RX1, .code yX1_meanWetness cX1_meanWetness 4 (some .double), .fieldLink RX1 9 "LayerMoisture$Board" "wetness" "[D"] ++ wsX60 ++ wsX40 ++ wsX10)
def wsX6_followPlan_r1 : List Cond := [Cond.fieldLink RX6 62 "LayerMoisture" "plan" "LLayerMoisture$Plan;", Cond.fieldLink RX6 186 "LayerMoisture$Plan" "done" "I", Cond.fieldLink RX6 232 "LayerMoisture$Plan" "steps" "I", Cond.fieldLink RX6 41 "LayerMoisture" "state" "LLayerMoisture$Air;", Cond.fieldLink RX6 238 "LayerMoisture$Plan" "kelvins" "[I", Cond.fieldLink RX6 99 "LayerMoisture$Air" "kelvin" "D", Cond.fieldLink RX6 242 "LayerMoisture$Plan" "damps" "[I", Cond.constantDouble RX6 245 (4636737291354636288), Cond.fieldLink RX6 102 "LayerMoisture$Air" "damp" "D", Cond.methodLink RX6 235 yX6_isStepDue, Cond.instanceMethod yX6_isStepDue, Cond.selects RX6 yX6_isStepDue yX6_isStepDue, Cond.initialized RX6, Cond.code yX6_isStepDue cX6_isStepDue 2 (some .boolean), Cond.fieldLink RX6 247 "LayerMoisture$Plan" "byHours" "[Z", Cond.fieldLink RX6 142 "LayerMoisture" "hoursPassed" "I", Cond.fieldLink RX6 251 "LayerMoisture$Plan" "times" "[I", Cond.methodLink RX6 189 yX6_boardsThere, Cond.instanceMethod yX6_boardsThere, Cond.selects RX6 yX6_boardsThere yX6_boardsThere, Cond.code yX6_boardsThere cX6_boardsThere 3 (some .int), Cond.fieldLink RX6 31 "LayerMoisture" "boards" "[LLayerMoisture$Board;", Cond.fieldLink RX6 201 "LayerMoisture$Board" "there" "Z", Cond.methodLink RX6 254 yX6_isAnyWetterThan]
def wsX6_followPlan_r2 : List Cond := [Cond.instanceMethod yX6_isAnyWetterThan, Cond.selects RX6 yX6_isAnyWetterThan yX6_isAnyWetterThan, Cond.code yX6_isAnyWetterThan cX6_isAnyWetterThan 4 (some .boolean), Cond.methodLink RX6 160 yX1_meanWetness, Cond.instanceMethod yX1_meanWetness, Cond.selects RX1 yX1_meanWetness yX1_meanWetness, Cond.initialized RX1, Cond.code yX1_meanWetness cX1_meanWetness 4 (some .double), Cond.fieldLink RX1 9 "LayerMoisture$Board" "wetness" "[D"]
def wsX6_followPlan : List Cond := .code yX6_followPlan cX6_followPlan 1 none :: ((wsX6_followPlan_r1 ++ wsX6_followPlan_r2) ++ wsX60 ++ wsX40 ++ wsX00 ++ wsX10)
def wsX6_passHour_r1 : List Cond := [Cond.fieldLink RX6 31 "LayerMoisture" "boards" "[LLayerMoisture$Board;", Cond.fieldLink RX6 201 "LayerMoisture$Board" "there" "Z", Cond.fieldLink RX6 41 "LayerMoisture" "state" "LLayerMoisture$Air;", Cond.fieldLink RX6 105 "LayerMoisture$Air" "speed" "D", Cond.fieldLink RX6 48 "LayerMoisture" "ledger" "LLayerMoisture$Ledger;", Cond.fieldLink RX6 142 "LayerMoisture" "hoursPassed" "I", Cond.methodLink RX6 216 yX6_followPlan, Cond.instanceMethod yX6_followPlan, Cond.selects RX6 yX6_followPlan yX6_followPlan, Cond.initialized RX6, Cond.code yX6_followPlan cX6_followPlan 1 none, Cond.fieldLink RX6 62 "LayerMoisture" "plan" "LLayerMoisture$Plan;", Cond.fieldLink RX6 186 "LayerMoisture$Plan" "done" "I", Cond.fieldLink RX6 232 "LayerMoisture$Plan" "steps" "I", Cond.fieldLink RX6 238 "LayerMoisture$Plan" "kelvins" "[I", Cond.fieldLink RX6 99 "LayerMoisture$Air" "kelvin" "D", Cond.fieldLink RX6 242 "LayerMoisture$Plan" "damps" "[I", Cond.constantDouble RX6 245 (4636737291354636288), Cond.fieldLink RX6 102 "LayerMoisture$Air" "damp" "D", Cond.methodLink RX6 235 yX6_isStepDue, Cond.instanceMethod yX6_isStepDue, Cond.selects RX6 yX6_isStepDue yX6_isStepDue, Cond.code yX6_isStepDue cX6_isStepDue 2 (some .boolean), Cond.fieldLink RX6 247 "LayerMoisture$Plan" "byHours" "[Z"]
def wsX6_passHour_r2 : List Cond := [Cond.fieldLink RX6 251 "LayerMoisture$Plan" "times" "[I", Cond.methodLink RX6 189 yX6_boardsThere, Cond.instanceMethod yX6_boardsThere, Cond.selects RX6 yX6_boardsThere yX6_boardsThere, Cond.code yX6_boardsThere cX6_boardsThere 3 (some .int), Cond.methodLink RX6 254 yX6_isAnyWetterThan, Cond.instanceMethod yX6_isAnyWetterThan, Cond.selects RX6 yX6_isAnyWetterThan yX6_isAnyWetterThan, Cond.code yX6_isAnyWetterThan cX6_isAnyWetterThan 4 (some .boolean), Cond.methodLink RX6 160 yX1_meanWetness, Cond.instanceMethod yX1_meanWetness, Cond.selects RX1 yX1_meanWetness yX1_meanWetness, Cond.initialized RX1, Cond.code yX1_meanWetness cX1_meanWetness 4 (some .double), Cond.fieldLink RX1 9 "LayerMoisture$Board" "wetness" "[D", Cond.methodLink RX6 171 yX0_balanceNow, Cond.instanceMethod yX0_balanceNow, Cond.selects RX0 yX0_balanceNow yX0_balanceNow, Cond.initialized RX0, Cond.code yX0_balanceNow cX0_balanceNow 1 (some .double), Cond.constantDouble RX0 26 (4600427019358961664), Cond.fieldLink RX0 17 "LayerMoisture$Air" "damp" "D", Cond.fieldLink RX0 9 "LayerMoisture$Air" "kelvin" "D", Cond.constantDouble RX0 28 (4643510282981736448)]
def wsX6_passHour_r3 : List Cond := [Cond.constantDouble RX0 30 (4643211215818981376), Cond.methodLink RX6 219 yX1_dry, Cond.instanceMethod yX1_dry, Cond.selects RX1 yX1_dry yX1_dry, Cond.code yX1_dry cX1_dry 15 (some .double), Cond.fieldLink RX1 23 "LayerMoisture$Board" "depth" "D", Cond.constantDouble RX1 59 (4634204016564240384), Cond.methodLink RX1 51 yX1_faceFlow, Cond.instanceMethod yX1_faceFlow, Cond.selects RX1 yX1_faceFlow yX1_faceFlow, Cond.code yX1_faceFlow cX1_faceFlow 7 (some .double), Cond.constantDouble RX1 37 (4620693217682128896), Cond.methodLink RX1 55 yX1_slopeFlow, Cond.instanceMethod yX1_slopeFlow, Cond.selects RX1 yX1_slopeFlow yX1_slopeFlow, Cond.code yX1_slopeFlow cX1_slopeFlow 5 (some .double), Cond.fieldLink RX1 15 "LayerMoisture$Board" "kind" "LLayerMoisture$Kind;", Cond.constantDouble RX1 61 (4611686018427387904), Cond.methodLink RX1 45 yX2_speedAt, Cond.instanceMethod yX2_speedAt, Cond.selects RX2 yX2_speedAt yX2_speedAt, Cond.initialized RX2, Cond.code yX2_speedAt cX2_speedAt 3 (some .double), Cond.fieldLink RX2 7 "LayerMoisture$Kind" "a" "D"]
def wsX6_passHour_r4 : List Cond := [Cond.fieldLink RX2 13 "LayerMoisture$Kind" "b" "D", Cond.methodLink RX6 223 yX3_take, Cond.instanceMethod yX3_take, Cond.selects RX3 yX3_take yX3_take, Cond.initialized RX3, Cond.code yX3_take cX3_take 5 none, Cond.fieldLink RX3 7 "LayerMoisture$Ledger" "rest" "D", Cond.fieldLink RX3 13 "LayerMoisture$Ledger" "gone" "J", Cond.methodLink RX6 226 yX0_takeUp, Cond.instanceMethod yX0_takeUp, Cond.selects RX0 yX0_takeUp yX0_takeUp, Cond.code yX0_takeUp cX0_takeUp 5 none, Cond.constantDouble RX0 32 (4679240012837945344), Cond.fieldLink RX0 23 "LayerMoisture$Air" "ventShare" "D", Cond.methodLink RX6 229 yX1_watchLoad, Cond.instanceMethod yX1_watchLoad, Cond.selects RX1 yX1_watchLoad yX1_watchLoad, Cond.code yX1_watchLoad cX1_watchLoad 2 none, Cond.fieldLink RX1 27 "LayerMoisture$Board" "limited" "Z", Cond.fieldLink RX1 30 "LayerMoisture$Board" "keptHour" "I", Cond.fieldLink RX1 34 "LayerMoisture$Board" "loadLimit" "D", Cond.methodLink RX1 71 yX1_greatestLoad, Cond.instanceMethod yX1_greatestLoad, Cond.selects RX1 yX1_greatestLoad yX1_greatestLoad]
def wsX6_passHour_r5 : List Cond := [Cond.code yX1_greatestLoad cX1_greatestLoad 10 (some .double), Cond.methodLink RX1 68 yX1_meanShrinkage, Cond.instanceMethod yX1_meanShrinkage, Cond.selects RX1 yX1_meanShrinkage yX1_meanShrinkage, Cond.code yX1_meanShrinkage cX1_meanShrinkage 4 (some .double), Cond.methodLink RX1 65 yX1_shrinkage, Cond.static yX1_shrinkage, Cond.code yX1_shrinkage cX1_shrinkage 2 (some .double), Cond.constantDouble RX1 39 (4598175219545276416), Cond.constantDouble RX1 63 (4599301119452119040)]
def wsX6_passHour : List Cond := .code yX6_passHour cX6_passHour 4 none :: ((wsX6_passHour_r1 ++ (wsX6_passHour_r2 ++ (wsX6_passHour_r3 ++ (wsX6_passHour_r4 ++ wsX6_passHour_r5)))) ++ wsX60 ++ wsX10 ++ wsX00 ++ wsX40 ++ wsX20 ++ wsX30)
def wsX6_run_r1 : List Cond := [Cond.classLink RX6 131 "java/lang/IllegalArgumentException", Cond.initialized "java/lang/IllegalArgumentException", Cond.fieldLink RX6 142 "LayerMoisture" "hoursPassed" "I", Cond.methodLink RX6 138 yX6_isRefused, Cond.instanceMethod yX6_isRefused, Cond.selects RX6 yX6_isRefused yX6_isRefused, Cond.initialized RX6, Cond.code yX6_isRefused cX6_isRefused 2 (some .boolean), Cond.fieldLink RX6 31 "LayerMoisture" "boards" "[LLayerMoisture$Board;", Cond.fieldLink RX6 201 "LayerMoisture$Board" "there" "Z", Cond.fieldLink RX6 41 "LayerMoisture" "state" "LLayerMoisture$Air;", Cond.fieldLink RX6 105 "LayerMoisture$Air" "speed" "D", Cond.methodLink RX6 212 yX1_refuses, Cond.instanceMethod yX1_refuses, Cond.selects RX1 yX1_refuses yX1_refuses, Cond.initialized RX1, Cond.code yX1_refuses cX1_refuses 3 (some .boolean), Cond.constantDouble RX1 37 (4620693217682128896), Cond.fieldLink RX1 23 "LayerMoisture$Board" "depth" "D", Cond.constantDouble RX1 39 (4598175219545276416), Cond.fieldLink RX1 15 "LayerMoisture$Board" "kind" "LLayerMoisture$Kind;", Cond.methodLink RX1 41 yX1_greatestWetness, Cond.instanceMethod yX1_greatestWetness, Cond.selects RX1 yX1_greatestWetness yX1_greatestWetness]
def wsX6_run_r2 : List Cond := [Cond.code yX1_greatestWetness cX1_greatestWetness 4 (some .double), Cond.fieldLink RX1 9 "LayerMoisture$Board" "wetness" "[D", Cond.methodLink RX1 45 yX2_speedAt, Cond.instanceMethod yX2_speedAt, Cond.selects RX2 yX2_speedAt yX2_speedAt, Cond.initialized RX2, Cond.code yX2_speedAt cX2_speedAt 3 (some .double), Cond.fieldLink RX2 7 "LayerMoisture$Kind" "a" "D", Cond.fieldLink RX2 13 "LayerMoisture$Kind" "b" "D", Cond.methodLink RX6 145 yX6_passHour, Cond.instanceMethod yX6_passHour, Cond.selects RX6 yX6_passHour yX6_passHour, Cond.code yX6_passHour cX6_passHour 4 none, Cond.fieldLink RX6 48 "LayerMoisture" "ledger" "LLayerMoisture$Ledger;", Cond.methodLink RX6 216 yX6_followPlan, Cond.instanceMethod yX6_followPlan, Cond.selects RX6 yX6_followPlan yX6_followPlan, Cond.code yX6_followPlan cX6_followPlan 1 none, Cond.fieldLink RX6 62 "LayerMoisture" "plan" "LLayerMoisture$Plan;", Cond.fieldLink RX6 186 "LayerMoisture$Plan" "done" "I", Cond.fieldLink RX6 232 "LayerMoisture$Plan" "steps" "I", Cond.fieldLink RX6 238 "LayerMoisture$Plan" "kelvins" "[I", Cond.fieldLink RX6 99 "LayerMoisture$Air" "kelvin" "D", Cond.fieldLink RX6 242 "LayerMoisture$Plan" "damps" "[I"]
def wsX6_run_r3 : List Cond := [Cond.constantDouble RX6 245 (4636737291354636288), Cond.fieldLink RX6 102 "LayerMoisture$Air" "damp" "D", Cond.methodLink RX6 235 yX6_isStepDue, Cond.instanceMethod yX6_isStepDue, Cond.selects RX6 yX6_isStepDue yX6_isStepDue, Cond.code yX6_isStepDue cX6_isStepDue 2 (some .boolean), Cond.fieldLink RX6 247 "LayerMoisture$Plan" "byHours" "[Z", Cond.fieldLink RX6 251 "LayerMoisture$Plan" "times" "[I", Cond.methodLink RX6 189 yX6_boardsThere, Cond.instanceMethod yX6_boardsThere, Cond.selects RX6 yX6_boardsThere yX6_boardsThere, Cond.code yX6_boardsThere cX6_boardsThere 3 (some .int), Cond.methodLink RX6 254 yX6_isAnyWetterThan, Cond.instanceMethod yX6_isAnyWetterThan, Cond.selects RX6 yX6_isAnyWetterThan yX6_isAnyWetterThan, Cond.code yX6_isAnyWetterThan cX6_isAnyWetterThan 4 (some .boolean), Cond.methodLink RX6 160 yX1_meanWetness, Cond.instanceMethod yX1_meanWetness, Cond.selects RX1 yX1_meanWetness yX1_meanWetness, Cond.code yX1_meanWetness cX1_meanWetness 4 (some .double), Cond.methodLink RX6 171 yX0_balanceNow, Cond.instanceMethod yX0_balanceNow, Cond.selects RX0 yX0_balanceNow yX0_balanceNow, Cond.initialized RX0]
def wsX6_run_r4 : List Cond := [Cond.code yX0_balanceNow cX0_balanceNow 1 (some .double), Cond.constantDouble RX0 26 (4600427019358961664), Cond.fieldLink RX0 17 "LayerMoisture$Air" "damp" "D", Cond.fieldLink RX0 9 "LayerMoisture$Air" "kelvin" "D", Cond.constantDouble RX0 28 (4643510282981736448), Cond.constantDouble RX0 30 (4643211215818981376), Cond.methodLink RX6 219 yX1_dry, Cond.instanceMethod yX1_dry, Cond.selects RX1 yX1_dry yX1_dry, Cond.code yX1_dry cX1_dry 15 (some .double), Cond.constantDouble RX1 59 (4634204016564240384), Cond.methodLink RX1 51 yX1_faceFlow, Cond.instanceMethod yX1_faceFlow, Cond.selects RX1 yX1_faceFlow yX1_faceFlow, Cond.code yX1_faceFlow cX1_faceFlow 7 (some .double), Cond.methodLink RX1 55 yX1_slopeFlow, Cond.instanceMethod yX1_slopeFlow, Cond.selects RX1 yX1_slopeFlow yX1_slopeFlow, Cond.code yX1_slopeFlow cX1_slopeFlow 5 (some .double), Cond.constantDouble RX1 61 (4611686018427387904), Cond.methodLink RX6 223 yX3_take, Cond.instanceMethod yX3_take, Cond.selects RX3 yX3_take yX3_take, Cond.initialized RX3]
def wsX6_run_r5 : List Cond := [Cond.code yX3_take cX3_take 5 none, Cond.fieldLink RX3 7 "LayerMoisture$Ledger" "rest" "D", Cond.fieldLink RX3 13 "LayerMoisture$Ledger" "gone" "J", Cond.methodLink RX6 226 yX0_takeUp, Cond.instanceMethod yX0_takeUp, Cond.selects RX0 yX0_takeUp yX0_takeUp, Cond.code yX0_takeUp cX0_takeUp 5 none, Cond.constantDouble RX0 32 (4679240012837945344), Cond.fieldLink RX0 23 "LayerMoisture$Air" "ventShare" "D", Cond.methodLink RX6 229 yX1_watchLoad, Cond.instanceMethod yX1_watchLoad, Cond.selects RX1 yX1_watchLoad yX1_watchLoad, Cond.code yX1_watchLoad cX1_watchLoad 2 none, Cond.fieldLink RX1 27 "LayerMoisture$Board" "limited" "Z", Cond.fieldLink RX1 30 "LayerMoisture$Board" "keptHour" "I", Cond.fieldLink RX1 34 "LayerMoisture$Board" "loadLimit" "D", Cond.methodLink RX1 71 yX1_greatestLoad, Cond.instanceMethod yX1_greatestLoad, Cond.selects RX1 yX1_greatestLoad yX1_greatestLoad, Cond.code yX1_greatestLoad cX1_greatestLoad 10 (some .double), Cond.methodLink RX1 68 yX1_meanShrinkage, Cond.instanceMethod yX1_meanShrinkage, Cond.selects RX1 yX1_meanShrinkage yX1_meanShrinkage, Cond.code yX1_meanShrinkage cX1_meanShrinkage 4 (some .double)]
def wsX6_run_r6 : List Cond := [Cond.methodLink RX1 65 yX1_shrinkage, Cond.static yX1_shrinkage, Cond.code yX1_shrinkage cX1_shrinkage 2 (some .double), Cond.constantDouble RX1 63 (4599301119452119040)]
def wsX6_run : List Cond := .code yX6_run cX6_run 3 (some .int) :: ((wsX6_run_r1 ++ (wsX6_run_r2 ++ (wsX6_run_r3 ++ (wsX6_run_r4 ++ (wsX6_run_r5 ++ wsX6_run_r6))))) ++ wsX60 ++ wsX10 ++ wsX00 ++ wsX20 ++ wsX40 ++ wsX30 ++ (vx_atS RX6 135 "java/lang/IllegalArgumentException" ["java/lang/RuntimeException", "java/lang/Exception"]).filter goodWord)
def wsX6_limit_r1 : List Cond := [Cond.classLink RX6 131 "java/lang/IllegalArgumentException", Cond.initialized "java/lang/IllegalArgumentException", Cond.methodLink RX6 66 yX6_slotOf, Cond.instanceMethod yX6_slotOf, Cond.selects RX6 yX6_slotOf yX6_slotOf, Cond.initialized RX6, Cond.code yX6_slotOf cX6_slotOf 2 (some (.object "LayerMoisture$Board")), Cond.fieldLink RX6 31 "LayerMoisture" "boards" "[LLayerMoisture$Board;", Cond.classLink RX6 177 RJx00060, Cond.instantiable RJx00060 6, Cond.initialized RJx00060, Cond.methodLink RX6 115 yX6_requireThere, Cond.static yX6_requireThere, Cond.code yX6_requireThere cX6_requireThere 1 none, Cond.classLink RX6 205 "java/lang/IllegalStateException", Cond.initialized "java/lang/IllegalStateException", Cond.fieldLink RX6 201 "LayerMoisture$Board" "there" "Z", Cond.methodLink RX6 150 yX1_setLimit, Cond.instanceMethod yX1_setLimit, Cond.selects RX1 yX1_setLimit yX1_setLimit, Cond.initialized RX1, Cond.code yX1_setLimit cX1_setLimit 3 none, Cond.fieldLink RX1 27 "LayerMoisture$Board" "limited" "Z", Cond.fieldLink RX1 34 "LayerMoisture$Board" "loadLimit" "D"]
def wsX6_limit_r2 : List Cond := [Cond.fieldLink RX1 30 "LayerMoisture$Board" "keptHour" "I"]
def wsX6_limit : List Cond := .code yX6_limit cX6_limit 5 none :: ((wsX6_limit_r1 ++ wsX6_limit_r2) ++ wsX60 ++ wsJx000600 ++ wsX10 ++ (vx_atS RX6 135 "java/lang/IllegalArgumentException" ["java/lang/RuntimeException", "java/lang/Exception"]).filter goodWord ++ (vx_atS RX6 209 "java/lang/IllegalStateException" ["java/lang/RuntimeException", "java/lang/Exception"]).filter goodWord)
def wsX6_boardThere : List Cond := .code yX6_boardThere cX6_boardThere 3 (some (.object "LayerMoisture$Board")) :: ([.methodLink RX6 66 yX6_slotOf, .instanceMethod yX6_slotOf, .selects RX6 yX6_slotOf yX6_slotOf, .initialized RX6, .code yX6_slotOf cX6_slotOf 2 (some (.object "LayerMoisture$Board")), .fieldLink RX6 31 "LayerMoisture" "boards" "[LLayerMoisture$Board;", .classLink RX6 177 RJx00060, .instantiable RJx00060 6, .initialized RJx00060, .methodLink RX6 115 yX6_requireThere, .static yX6_requireThere, .code yX6_requireThere cX6_requireThere 1 none, .classLink RX6 205 "java/lang/IllegalStateException", .initialized "java/lang/IllegalStateException", .fieldLink RX6 201 "LayerMoisture$Board" "there" "Z"] ++ wsX60 ++ wsJx000600 ++ wsX10 ++ (vx_atS RX6 209 "java/lang/IllegalStateException" ["java/lang/RuntimeException", "java/lang/Exception"]).filter goodWord)
def wsX6_check : List Cond := .code yX6_check cX6_check 2 (some .int) :: ([.fieldLink RX6 157 "LayerMoisture$Board" "keptHour" "I", .methodLink RX6 154 yX6_boardThere, .instanceMethod yX6_boardThere, .selects RX6 yX6_boardThere yX6_boardThere, .initialized RX6, .code yX6_boardThere cX6_boardThere 3 (some (.object "LayerMoisture$Board")), .methodLink RX6 66 yX6_slotOf, .instanceMethod yX6_slotOf, .selects RX6 yX6_slotOf yX6_slotOf, .code yX6_slotOf cX6_slotOf 2 (some (.object "LayerMoisture$Board")), .fieldLink RX6 31 "LayerMoisture" "boards" "[LLayerMoisture$Board;", .classLink RX6 177 RJx00060, .instantiable RJx00060 6, .initialized RJx00060, .methodLink RX6 115 yX6_requireThere, .static yX6_requireThere, .code yX6_requireThere cX6_requireThere 1 none, .classLink RX6 205 "java/lang/IllegalStateException", .initialized "java/lang/IllegalStateException", .fieldLink RX6 201 "LayerMoisture$Board" "there" "Z"] ++ wsX10 ++ wsX60 ++ wsJx000600 ++ (vx_atS RX6 209 "java/lang/IllegalStateException" ["java/lang/RuntimeException", "java/lang/Exception"]).filter goodWord)
def wsX6_wet : List Cond := .code yX6_wet cX6_wet 4 (some .double) :: ([.fieldLink RX6 119 "LayerMoisture$Board" "wetness" "[D", .methodLink RX6 66 yX6_slotOf, .instanceMethod yX6_slotOf, .selects RX6 yX6_slotOf yX6_slotOf, .initialized RX6, .code yX6_slotOf cX6_slotOf 2 (some (.object "LayerMoisture$Board")), .fieldLink RX6 31 "LayerMoisture" "boards" "[LLayerMoisture$Board;", .classLink RX6 177 RJx00060, .instantiable RJx00060 6, .initialized RJx00060, .methodLink RX6 111 yX6_requireLayer, .instanceMethod yX6_requireLayer, .selects RX6 yX6_requireLayer yX6_requireLayer, .code yX6_requireLayer cX6_requireLayer 2 none, .fieldLink RX6 18 "LayerMoisture" "layerCount" "I", .methodLink RX6 115 yX6_requireThere, .static yX6_requireThere, .code yX6_requireThere cX6_requireThere 1 none, .classLink RX6 205 "java/lang/IllegalStateException", .initialized "java/lang/IllegalStateException", .fieldLink RX6 201 "LayerMoisture$Board" "there" "Z"] ++ wsX10 ++ wsX60 ++ wsJx000600 ++ (vx_atS RX6 209 "java/lang/IllegalStateException" ["java/lang/RuntimeException", "java/lang/Exception"]).filter goodWord)
def wsX6_mean_r1 : List Cond := [Cond.methodLink RX6 154 yX6_boardThere, Cond.instanceMethod yX6_boardThere, Cond.selects RX6 yX6_boardThere yX6_boardThere, Cond.initialized RX6, Cond.code yX6_boardThere cX6_boardThere 3 (some (.object "LayerMoisture$Board")), Cond.methodLink RX6 66 yX6_slotOf, Cond.instanceMethod yX6_slotOf, Cond.selects RX6 yX6_slotOf yX6_slotOf, Cond.code yX6_slotOf cX6_slotOf 2 (some (.object "LayerMoisture$Board")), Cond.fieldLink RX6 31 "LayerMoisture" "boards" "[LLayerMoisture$Board;", Cond.classLink RX6 177 RJx00060, Cond.instantiable RJx00060 6, Cond.initialized RJx00060, Cond.methodLink RX6 115 yX6_requireThere, Cond.static yX6_requireThere, Cond.code yX6_requireThere cX6_requireThere 1 none, Cond.classLink RX6 205 "java/lang/IllegalStateException", Cond.initialized "java/lang/IllegalStateException", Cond.fieldLink RX6 201 "LayerMoisture$Board" "there" "Z", Cond.methodLink RX6 160 yX1_meanWetness, Cond.instanceMethod yX1_meanWetness, Cond.selects RX1 yX1_meanWetness yX1_meanWetness, Cond.initialized RX1, Cond.code yX1_meanWetness cX1_meanWetness 4 (some .double)]
def wsX6_mean_r2 : List Cond := [Cond.fieldLink RX1 9 "LayerMoisture$Board" "wetness" "[D"]
def wsX6_mean : List Cond := .code yX6_mean cX6_mean 2 (some .double) :: ((wsX6_mean_r1 ++ wsX6_mean_r2) ++ wsX60 ++ wsJx000600 ++ wsX10 ++ (vx_atS RX6 209 "java/lang/IllegalStateException" ["java/lang/RuntimeException", "java/lang/Exception"]).filter goodWord)
def wsX6_stress_r1 : List Cond := [Cond.fieldLink RX6 119 "LayerMoisture$Board" "wetness" "[D", Cond.methodLink RX6 66 yX6_slotOf, Cond.instanceMethod yX6_slotOf, Cond.selects RX6 yX6_slotOf yX6_slotOf, Cond.initialized RX6, Cond.code yX6_slotOf cX6_slotOf 2 (some (.object "LayerMoisture$Board")), Cond.fieldLink RX6 31 "LayerMoisture" "boards" "[LLayerMoisture$Board;", Cond.classLink RX6 177 RJx00060, Cond.instantiable RJx00060 6, Cond.initialized RJx00060, Cond.methodLink RX6 111 yX6_requireLayer, Cond.instanceMethod yX6_requireLayer, Cond.selects RX6 yX6_requireLayer yX6_requireLayer, Cond.code yX6_requireLayer cX6_requireLayer 2 none, Cond.fieldLink RX6 18 "LayerMoisture" "layerCount" "I", Cond.methodLink RX6 115 yX6_requireThere, Cond.static yX6_requireThere, Cond.code yX6_requireThere cX6_requireThere 1 none, Cond.classLink RX6 205 "java/lang/IllegalStateException", Cond.initialized "java/lang/IllegalStateException", Cond.fieldLink RX6 201 "LayerMoisture$Board" "there" "Z", Cond.methodLink RX6 164 yX1_shrinkage, Cond.static yX1_shrinkage, Cond.initialized RX1]
def wsX6_stress_r2 : List Cond := [Cond.code yX1_shrinkage cX1_shrinkage 2 (some .double), Cond.constantDouble RX1 39 (4598175219545276416), Cond.constantDouble RX1 63 (4599301119452119040), Cond.methodLink RX6 168 yX1_meanShrinkage, Cond.instanceMethod yX1_meanShrinkage, Cond.selects RX1 yX1_meanShrinkage yX1_meanShrinkage, Cond.code yX1_meanShrinkage cX1_meanShrinkage 4 (some .double), Cond.fieldLink RX1 9 "LayerMoisture$Board" "wetness" "[D", Cond.methodLink RX1 65 yX1_shrinkage]
def wsX6_stress : List Cond := .code yX6_stress cX6_stress 4 (some .double) :: ((wsX6_stress_r1 ++ wsX6_stress_r2) ++ wsX10 ++ wsX60 ++ wsJx000600 ++ (vx_atS RX6 209 "java/lang/IllegalStateException" ["java/lang/RuntimeException", "java/lang/Exception"]).filter goodWord)
def wsX6_balance : List Cond := .code yX6_balance cX6_balance 1 (some .double) :: ([.fieldLink RX6 41 "LayerMoisture" "state" "LLayerMoisture$Air;", .methodLink RX6 171 yX0_balanceNow, .instanceMethod yX0_balanceNow, .selects RX0 yX0_balanceNow yX0_balanceNow, .initialized RX0, .code yX0_balanceNow cX0_balanceNow 1 (some .double), .constantDouble RX0 26 (4600427019358961664), .fieldLink RX0 17 "LayerMoisture$Air" "damp" "D", .fieldLink RX0 9 "LayerMoisture$Air" "kelvin" "D", .constantDouble RX0 28 (4643510282981736448), .constantDouble RX0 30 (4643211215818981376)] ++ wsX60 ++ wsX00)
def wsX6_told : List Cond := .code yX6_told cX6_told 2 (some .double) :: ([.fieldLink RX6 41 "LayerMoisture" "state" "LLayerMoisture$Air;", .fieldLink RX6 99 "LayerMoisture$Air" "kelvin" "D", .fieldLink RX6 102 "LayerMoisture$Air" "damp" "D", .fieldLink RX6 105 "LayerMoisture$Air" "speed" "D", .fieldLink RX6 108 "LayerMoisture$Air" "ventShare" "D", .fieldLink RX6 48 "LayerMoisture" "ledger" "LLayerMoisture$Ledger;", .fieldLink RX6 174 "LayerMoisture$Ledger" "rest" "D", .classLink RX6 177 RJx00060, .instantiable RJx00060 6, .initialized RJx00060] ++ wsX60 ++ wsX00 ++ wsX30 ++ wsJx000600)
def wsX6_grams : List Cond := .code yX6_grams cX6_grams 1 (some .long) :: ([.fieldLink RX6 48 "LayerMoisture" "ledger" "LLayerMoisture$Ledger;", .fieldLink RX6 182 "LayerMoisture$Ledger" "gone" "J"] ++ wsX60 ++ wsX30)
def wsX6_count : List Cond := .code yX6_count cX6_count 2 (some .int) :: ([.fieldLink RX6 142 "LayerMoisture" "hoursPassed" "I", .fieldLink RX6 62 "LayerMoisture" "plan" "LLayerMoisture$Plan;", .fieldLink RX6 186 "LayerMoisture$Plan" "done" "I", .classLink RX6 177 RJx00060, .instantiable RJx00060 6, .initialized RJx00060, .methodLink RX6 189 yX6_boardsThere, .instanceMethod yX6_boardsThere, .selects RX6 yX6_boardsThere yX6_boardsThere, .initialized RX6, .code yX6_boardsThere cX6_boardsThere 3 (some .int), .fieldLink RX6 31 "LayerMoisture" "boards" "[LLayerMoisture$Board;", .fieldLink RX6 201 "LayerMoisture$Board" "there" "Z"] ++ wsX60 ++ wsX40 ++ wsJx000600 ++ wsX10)
def wsX7_init_r1 : List Cond := [Cond.methodLink RX7 1 objectInit, Cond.instanceMethod objectInit, Cond.code objectInit ⟨#[0xb1]⟩ 1 none, Cond.arrayClass .double, Cond.fieldLink RX7 7 "LayerMoistureModel" "rateA" "[D", Cond.fieldLink RX7 13 "LayerMoistureModel" "rateB" "[D", Cond.constantDouble RX7 16 (4643862126702624768), Cond.fieldLink RX7 18 "LayerMoistureModel" "kelvin" "D", Cond.constantDouble RX7 22 (4602678819172646912), Cond.fieldLink RX7 24 "LayerMoistureModel" "damp" "D", Cond.fieldLink RX7 27 "LayerMoistureModel" "speed" "D", Cond.arrayClass .boolean, Cond.fieldLink RX7 30 "LayerMoistureModel" "there" "[Z", Cond.fieldLink RX7 34 "LayerMoistureModel" "depths" "[D", Cond.arrayClass .int, Cond.fieldLink RX7 37 "LayerMoistureModel" "kinds" "[I", Cond.fieldLink RX7 41 "LayerMoistureModel" "wets" "[D", Cond.fieldLink RX7 44 "LayerMoistureModel" "next" "[D", Cond.fieldLink RX7 47 "LayerMoistureModel" "limited" "[Z", Cond.fieldLink RX7 50 "LayerMoistureModel" "limits" "[D", Cond.fieldLink RX7 53 "LayerMoistureModel" "kept" "[I", Cond.fieldLink RX7 56 "LayerMoistureModel" "text" "[I", Cond.fieldLink RX7 59 "LayerMoistureModel" "byWet" "[Z", Cond.fieldLink RX7 62 "LayerMoistureModel" "times" "[I"]
def wsX7_init_r2 : List Cond := [Cond.fieldLink RX7 65 "LayerMoistureModel" "kelvins" "[I", Cond.fieldLink RX7 68 "LayerMoistureModel" "damps" "[I", Cond.fieldLink RX7 71 "LayerMoistureModel" "layers" "I", Cond.fieldLink RX7 75 "LayerMoistureModel" "boards" "I"]
def wsX7_init : List Cond := .code yX7_init cX7_init 3 none :: ((wsX7_init_r1 ++ wsX7_init_r2) ++ wsX70)
def wsX7_thrown : List Cond := .code yX7_thrown cX7_thrown 1 (some .int) :: ([.fieldLink RX7 78 "LayerMoistureModel" "thrown" "I"] ++ wsX70)
def wsX7_noBoard : List Cond := .code yX7_noBoard cX7_noBoard 2 (some .boolean) :: ([.fieldLink RX7 75 "LayerMoistureModel" "boards" "I"] ++ wsX70)
def wsX7_noLayer : List Cond := .code yX7_noLayer cX7_noLayer 3 (some .boolean) :: ([.fieldLink RX7 71 "LayerMoistureModel" "layers" "I", .methodLink RX7 81 yX7_noBoard, .instanceMethod yX7_noBoard, .selects RX7 yX7_noBoard yX7_noBoard, .initialized RX7, .code yX7_noBoard cX7_noBoard 2 (some .boolean), .fieldLink RX7 75 "LayerMoistureModel" "boards" "I"] ++ wsX70)
def wsX7_isIn : List Cond := .code yX7_isIn cX7_isIn 6 (some .boolean) :: ([])
def wsX7_board : List Cond := .code yX7_board cX7_board 8 none :: ([.constantDouble RX7 85 (4645744490609377280), .constantDouble RX7 91 (4613937818241073152), .fieldLink RX7 78 "LayerMoistureModel" "thrown" "I", .fieldLink RX7 30 "LayerMoistureModel" "there" "[Z", .fieldLink RX7 34 "LayerMoistureModel" "depths" "[D", .fieldLink RX7 71 "LayerMoistureModel" "layers" "I", .fieldLink RX7 37 "LayerMoistureModel" "kinds" "[I", .fieldLink RX7 47 "LayerMoistureModel" "limited" "[Z", .fieldLink RX7 53 "LayerMoistureModel" "kept" "[I", .fieldLink RX7 41 "LayerMoistureModel" "wets" "[D", .methodLink RX7 81 yX7_noBoard, .instanceMethod yX7_noBoard, .selects RX7 yX7_noBoard yX7_noBoard, .initialized RX7, .code yX7_noBoard cX7_noBoard 2 (some .boolean), .fieldLink RX7 75 "LayerMoistureModel" "boards" "I", .methodLink RX7 87 yX7_isIn, .static yX7_isIn, .code yX7_isIn cX7_isIn 6 (some .boolean)] ++ wsX70)
def wsX7_rate : List Cond := .code yX7_rate cX7_rate 6 none :: ([.constantDouble RX7 93 (4620693217682128896), .fieldLink RX7 78 "LayerMoistureModel" "thrown" "I", .fieldLink RX7 7 "LayerMoistureModel" "rateA" "[D", .fieldLink RX7 13 "LayerMoistureModel" "rateB" "[D", .methodLink RX7 87 yX7_isIn, .static yX7_isIn, .initialized RX7, .code yX7_isIn cX7_isIn 6 (some .boolean)] ++ wsX70)
def wsX7_air : List Cond := .code yX7_air cX7_air 7 none :: ([.constantDouble RX7 95 (4643000109586448384), .constantDouble RX7 85 (4645744490609377280), .constantDouble RX7 97 (4625196817309499392), .fieldLink RX7 78 "LayerMoistureModel" "thrown" "I", .fieldLink RX7 18 "LayerMoistureModel" "kelvin" "D", .fieldLink RX7 24 "LayerMoistureModel" "damp" "D", .fieldLink RX7 27 "LayerMoistureModel" "speed" "D", .methodLink RX7 87 yX7_isIn, .static yX7_isIn, .initialized RX7, .code yX7_isIn cX7_isIn 6 (some .boolean)] ++ wsX70)
def wsX7_vent : List Cond := .code yX7_vent cX7_vent 3 none :: ([.fieldLink RX7 78 "LayerMoistureModel" "thrown" "I", .fieldLink RX7 99 "LayerMoistureModel" "vent" "D", .methodLink RX7 87 yX7_isIn, .static yX7_isIn, .initialized RX7, .code yX7_isIn cX7_isIn 6 (some .boolean)] ++ wsX70)
def wsX7_soak : List Cond := .code yX7_soak cX7_soak 5 none :: ([.constantDouble RX7 91 (4613937818241073152), .fieldLink RX7 30 "LayerMoistureModel" "there" "[Z", .fieldLink RX7 78 "LayerMoistureModel" "thrown" "I", .fieldLink RX7 41 "LayerMoistureModel" "wets" "[D", .methodLink RX7 102 yX7_noLayer, .instanceMethod yX7_noLayer, .selects RX7 yX7_noLayer yX7_noLayer, .initialized RX7, .code yX7_noLayer cX7_noLayer 3 (some .boolean), .fieldLink RX7 71 "LayerMoistureModel" "layers" "I", .methodLink RX7 81 yX7_noBoard, .instanceMethod yX7_noBoard, .selects RX7 yX7_noBoard yX7_noBoard, .code yX7_noBoard cX7_noBoard 2 (some .boolean), .fieldLink RX7 75 "LayerMoistureModel" "boards" "I", .methodLink RX7 87 yX7_isIn, .static yX7_isIn, .code yX7_isIn cX7_isIn 6 (some .boolean)] ++ wsX70)
def wsX7_unit : List Cond := .code yX7_unit cX7_unit 2 (some .boolean) :: ([.fieldLink RX7 78 "LayerMoistureModel" "thrown" "I", .fieldLink RX7 106 "LayerMoistureModel" "typed" "I", .fieldLink RX7 56 "LayerMoistureModel" "text" "[I"] ++ wsX70)
def wsX7_fail : List Cond := .code yX7_fail cX7_fail 2 (some .boolean) :: ([.fieldLink RX7 109 "LayerMoistureModel" "bad" "I"] ++ wsX70)
def wsX7_pass : List Cond := .code yX7_pass cX7_pass 2 (some .boolean) :: ([.fieldLink RX7 112 "LayerMoistureModel" "at" "I", .fieldLink RX7 106 "LayerMoistureModel" "typed" "I", .fieldLink RX7 56 "LayerMoistureModel" "text" "[I", .methodLink RX7 115 yX7_fail, .instanceMethod yX7_fail, .selects RX7 yX7_fail yX7_fail, .initialized RX7, .code yX7_fail cX7_fail 2 (some .boolean), .fieldLink RX7 109 "LayerMoistureModel" "bad" "I"] ++ wsX70)
def wsX7_isDigit : List Cond := .code yX7_isDigit cX7_isDigit 1 (some .boolean) :: ([.fieldLink RX7 112 "LayerMoistureModel" "at" "I", .fieldLink RX7 106 "LayerMoistureModel" "typed" "I", .fieldLink RX7 56 "LayerMoistureModel" "text" "[I"] ++ wsX70)
def wsX7_passNumber : List Cond := .code yX7_passNumber cX7_passNumber 4 (some .boolean) :: ([.fieldLink RX7 112 "LayerMoistureModel" "at" "I", .fieldLink RX7 118 "LayerMoistureModel" "number" "I", .fieldLink RX7 56 "LayerMoistureModel" "text" "[I", .methodLink RX7 121 yX7_isDigit, .instanceMethod yX7_isDigit, .selects RX7 yX7_isDigit yX7_isDigit, .initialized RX7, .code yX7_isDigit cX7_isDigit 1 (some .boolean), .fieldLink RX7 106 "LayerMoistureModel" "typed" "I", .methodLink RX7 115 yX7_fail, .instanceMethod yX7_fail, .selects RX7 yX7_fail yX7_fail, .code yX7_fail cX7_fail 2 (some .boolean), .fieldLink RX7 109 "LayerMoistureModel" "bad" "I"] ++ wsX70)
def wsX7_passStep_r1 : List Cond := [Cond.fieldLink RX7 112 "LayerMoistureModel" "at" "I", Cond.fieldLink RX7 106 "LayerMoistureModel" "typed" "I", Cond.fieldLink RX7 56 "LayerMoistureModel" "text" "[I", Cond.fieldLink RX7 59 "LayerMoistureModel" "byWet" "[Z", Cond.fieldLink RX7 125 "LayerMoistureModel" "steps" "I", Cond.fieldLink RX7 62 "LayerMoistureModel" "times" "[I", Cond.fieldLink RX7 118 "LayerMoistureModel" "number" "I", Cond.fieldLink RX7 65 "LayerMoistureModel" "kelvins" "[I", Cond.fieldLink RX7 68 "LayerMoistureModel" "damps" "[I", Cond.methodLink RX7 115 yX7_fail, Cond.instanceMethod yX7_fail, Cond.selects RX7 yX7_fail yX7_fail, Cond.initialized RX7, Cond.code yX7_fail cX7_fail 2 (some .boolean), Cond.fieldLink RX7 109 "LayerMoistureModel" "bad" "I", Cond.methodLink RX7 128 yX7_passNumber, Cond.instanceMethod yX7_passNumber, Cond.selects RX7 yX7_passNumber yX7_passNumber, Cond.code yX7_passNumber cX7_passNumber 4 (some .boolean), Cond.methodLink RX7 121 yX7_isDigit, Cond.instanceMethod yX7_isDigit, Cond.selects RX7 yX7_isDigit yX7_isDigit, Cond.code yX7_isDigit cX7_isDigit 1 (some .boolean), Cond.methodLink RX7 131 yX7_pass]
def wsX7_passStep_r2 : List Cond := [Cond.instanceMethod yX7_pass, Cond.selects RX7 yX7_pass yX7_pass, Cond.code yX7_pass cX7_pass 2 (some .boolean)]
def wsX7_passStep : List Cond := .code yX7_passStep cX7_passStep 2 (some .boolean) :: ((wsX7_passStep_r1 ++ wsX7_passStep_r2) ++ wsX70)
def wsX7_schedule_r1 : List Cond := [Cond.fieldLink RX7 78 "LayerMoistureModel" "thrown" "I", Cond.fieldLink RX7 112 "LayerMoistureModel" "at" "I", Cond.fieldLink RX7 125 "LayerMoistureModel" "steps" "I", Cond.fieldLink RX7 134 "LayerMoistureModel" "done" "I", Cond.fieldLink RX7 106 "LayerMoistureModel" "typed" "I", Cond.fieldLink RX7 56 "LayerMoistureModel" "text" "[I", Cond.fieldLink RX7 109 "LayerMoistureModel" "bad" "I", Cond.methodLink RX7 137 yX7_passStep, Cond.instanceMethod yX7_passStep, Cond.selects RX7 yX7_passStep yX7_passStep, Cond.initialized RX7, Cond.code yX7_passStep cX7_passStep 2 (some .boolean), Cond.fieldLink RX7 59 "LayerMoistureModel" "byWet" "[Z", Cond.fieldLink RX7 62 "LayerMoistureModel" "times" "[I", Cond.fieldLink RX7 118 "LayerMoistureModel" "number" "I", Cond.fieldLink RX7 65 "LayerMoistureModel" "kelvins" "[I", Cond.fieldLink RX7 68 "LayerMoistureModel" "damps" "[I", Cond.methodLink RX7 115 yX7_fail, Cond.instanceMethod yX7_fail, Cond.selects RX7 yX7_fail yX7_fail, Cond.code yX7_fail cX7_fail 2 (some .boolean), Cond.methodLink RX7 128 yX7_passNumber, Cond.instanceMethod yX7_passNumber, Cond.selects RX7 yX7_passNumber yX7_passNumber]
def wsX7_schedule_r2 : List Cond := [Cond.code yX7_passNumber cX7_passNumber 4 (some .boolean), Cond.methodLink RX7 121 yX7_isDigit, Cond.instanceMethod yX7_isDigit, Cond.selects RX7 yX7_isDigit yX7_isDigit, Cond.code yX7_isDigit cX7_isDigit 1 (some .boolean), Cond.methodLink RX7 131 yX7_pass, Cond.instanceMethod yX7_pass, Cond.selects RX7 yX7_pass yX7_pass, Cond.code yX7_pass cX7_pass 2 (some .boolean)]
def wsX7_schedule : List Cond := .code yX7_schedule cX7_schedule 2 (some .int) :: ((wsX7_schedule_r1 ++ wsX7_schedule_r2) ++ wsX70)
def wsX7_sumOf : List Cond := .code yX7_sumOf cX7_sumOf 5 (some .double) :: ([.fieldLink RX7 41 "LayerMoistureModel" "wets" "[D", .fieldLink RX7 71 "LayerMoistureModel" "layers" "I"] ++ wsX70)
def wsX7_meanOf : List Cond := .code yX7_meanOf cX7_meanOf 2 (some .double) :: ([.fieldLink RX7 71 "LayerMoistureModel" "layers" "I", .methodLink RX7 140 yX7_sumOf, .instanceMethod yX7_sumOf, .selects RX7 yX7_sumOf yX7_sumOf, .initialized RX7, .code yX7_sumOf cX7_sumOf 5 (some .double), .fieldLink RX7 41 "LayerMoistureModel" "wets" "[D"] ++ wsX70)
def wsX7_balanceNow : List Cond := .code yX7_balanceNow cX7_balanceNow 1 (some .double) :: ([.constantDouble RX7 144 (4600427019358961664), .fieldLink RX7 24 "LayerMoistureModel" "damp" "D", .fieldLink RX7 18 "LayerMoistureModel" "kelvin" "D", .constantDouble RX7 146 (4643510282981736448), .constantDouble RX7 148 (4643211215818981376)] ++ wsX70)
def wsX7_isRefused : List Cond := .code yX7_isRefused cX7_isRefused 6 (some .boolean) :: ([.fieldLink RX7 75 "LayerMoistureModel" "boards" "I", .fieldLink RX7 30 "LayerMoistureModel" "there" "[Z", .fieldLink RX7 71 "LayerMoistureModel" "layers" "I", .fieldLink RX7 41 "LayerMoistureModel" "wets" "[D", .fieldLink RX7 34 "LayerMoistureModel" "depths" "[D", .fieldLink RX7 27 "LayerMoistureModel" "speed" "D", .constantDouble RX7 93 (4620693217682128896), .constantDouble RX7 150 (4598175219545276416), .fieldLink RX7 7 "LayerMoistureModel" "rateA" "[D", .fieldLink RX7 37 "LayerMoistureModel" "kinds" "[I", .fieldLink RX7 13 "LayerMoistureModel" "rateB" "[D"] ++ wsX70)
def wsX7_hasCome : List Cond := .code yX7_hasCome cX7_hasCome 5 (some .boolean) :: ([.fieldLink RX7 59 "LayerMoistureModel" "byWet" "[Z", .fieldLink RX7 134 "LayerMoistureModel" "done" "I", .fieldLink RX7 152 "LayerMoistureModel" "hours" "I", .fieldLink RX7 62 "LayerMoistureModel" "times" "[I", .fieldLink RX7 75 "LayerMoistureModel" "boards" "I", .fieldLink RX7 30 "LayerMoistureModel" "there" "[Z", .constantDouble RX7 158 (4636737291354636288), .methodLink RX7 155 yX7_meanOf, .instanceMethod yX7_meanOf, .selects RX7 yX7_meanOf yX7_meanOf, .initialized RX7, .code yX7_meanOf cX7_meanOf 2 (some .double), .fieldLink RX7 71 "LayerMoistureModel" "layers" "I", .methodLink RX7 140 yX7_sumOf, .instanceMethod yX7_sumOf, .selects RX7 yX7_sumOf yX7_sumOf, .code yX7_sumOf cX7_sumOf 5 (some .double), .fieldLink RX7 41 "LayerMoistureModel" "wets" "[D"] ++ wsX70)
def wsX7_flow : List Cond := .code yX7_flow cX7_flow 6 (some .double) :: ([.fieldLink RX7 34 "LayerMoistureModel" "depths" "[D", .fieldLink RX7 7 "LayerMoistureModel" "rateA" "[D", .fieldLink RX7 37 "LayerMoistureModel" "kinds" "[I", .fieldLink RX7 13 "LayerMoistureModel" "rateB" "[D", .fieldLink RX7 41 "LayerMoistureModel" "wets" "[D", .constantDouble RX7 160 (4611686018427387904)] ++ wsX70)
def wsX7_hourOf_r1 : List Cond := [Cond.fieldLink RX7 71 "LayerMoistureModel" "layers" "I", Cond.fieldLink RX7 34 "LayerMoistureModel" "depths" "[D", Cond.fieldLink RX7 27 "LayerMoistureModel" "speed" "D", Cond.fieldLink RX7 41 "LayerMoistureModel" "wets" "[D", Cond.constantDouble RX7 93 (4620693217682128896), Cond.fieldLink RX7 44 "LayerMoistureModel" "next" "[D", Cond.constantDouble RX7 170 (4634204016564240384), Cond.fieldLink RX7 172 "LayerMoistureModel" "left" "D", Cond.fieldLink RX7 175 "LayerMoistureModel" "gone" "J", Cond.fieldLink RX7 24 "LayerMoistureModel" "damp" "D", Cond.constantDouble RX7 179 (4679240012837945344), Cond.fieldLink RX7 99 "LayerMoistureModel" "vent" "D", Cond.methodLink RX7 162 yX7_balanceNow, Cond.instanceMethod yX7_balanceNow, Cond.selects RX7 yX7_balanceNow yX7_balanceNow, Cond.initialized RX7, Cond.code yX7_balanceNow cX7_balanceNow 1 (some .double), Cond.constantDouble RX7 144 (4600427019358961664), Cond.fieldLink RX7 18 "LayerMoistureModel" "kelvin" "D", Cond.constantDouble RX7 146 (4643510282981736448), Cond.constantDouble RX7 148 (4643211215818981376), Cond.methodLink RX7 166 yX7_flow, Cond.instanceMethod yX7_flow, Cond.selects RX7 yX7_flow yX7_flow]
def wsX7_hourOf_r2 : List Cond := [Cond.code yX7_flow cX7_flow 6 (some .double), Cond.fieldLink RX7 7 "LayerMoistureModel" "rateA" "[D", Cond.fieldLink RX7 37 "LayerMoistureModel" "kinds" "[I", Cond.fieldLink RX7 13 "LayerMoistureModel" "rateB" "[D", Cond.constantDouble RX7 160 (4611686018427387904)]
def wsX7_hourOf : List Cond := .code yX7_hourOf cX7_hourOf 14 none :: ((wsX7_hourOf_r1 ++ wsX7_hourOf_r2) ++ wsX70)
def wsX7_share : List Cond := .code yX7_share cX7_share 5 (some .double) :: ([.fieldLink RX7 41 "LayerMoistureModel" "wets" "[D", .constantDouble RX7 150 (4598175219545276416), .constantDouble RX7 181 (4599301119452119040)] ++ wsX70)
def wsX7_stressOf : List Cond := .code yX7_stressOf cX7_stressOf 6 (some .double) :: ([.fieldLink RX7 71 "LayerMoistureModel" "layers" "I", .methodLink RX7 183 yX7_share, .instanceMethod yX7_share, .selects RX7 yX7_share yX7_share, .initialized RX7, .code yX7_share cX7_share 5 (some .double), .fieldLink RX7 41 "LayerMoistureModel" "wets" "[D", .constantDouble RX7 150 (4598175219545276416), .constantDouble RX7 181 (4599301119452119040)] ++ wsX70)
def wsX7_keep : List Cond := .code yX7_keep cX7_keep 7 none :: ([.fieldLink RX7 71 "LayerMoistureModel" "layers" "I", .fieldLink RX7 47 "LayerMoistureModel" "limited" "[Z", .fieldLink RX7 53 "LayerMoistureModel" "kept" "[I", .fieldLink RX7 50 "LayerMoistureModel" "limits" "[D", .fieldLink RX7 152 "LayerMoistureModel" "hours" "I", .methodLink RX7 186 yX7_stressOf, .instanceMethod yX7_stressOf, .selects RX7 yX7_stressOf yX7_stressOf, .initialized RX7, .code yX7_stressOf cX7_stressOf 6 (some .double), .methodLink RX7 183 yX7_share, .instanceMethod yX7_share, .selects RX7 yX7_share yX7_share, .code yX7_share cX7_share 5 (some .double), .fieldLink RX7 41 "LayerMoistureModel" "wets" "[D", .constantDouble RX7 150 (4598175219545276416), .constantDouble RX7 181 (4599301119452119040)] ++ wsX70)
def wsX7_hour_r1 : List Cond := [Cond.fieldLink RX7 134 "LayerMoistureModel" "done" "I", Cond.fieldLink RX7 125 "LayerMoistureModel" "steps" "I", Cond.fieldLink RX7 65 "LayerMoistureModel" "kelvins" "[I", Cond.fieldLink RX7 18 "LayerMoistureModel" "kelvin" "D", Cond.fieldLink RX7 68 "LayerMoistureModel" "damps" "[I", Cond.constantDouble RX7 158 (4636737291354636288), Cond.fieldLink RX7 24 "LayerMoistureModel" "damp" "D", Cond.fieldLink RX7 75 "LayerMoistureModel" "boards" "I", Cond.fieldLink RX7 30 "LayerMoistureModel" "there" "[Z", Cond.fieldLink RX7 152 "LayerMoistureModel" "hours" "I", Cond.methodLink RX7 189 yX7_hasCome, Cond.instanceMethod yX7_hasCome, Cond.selects RX7 yX7_hasCome yX7_hasCome, Cond.initialized RX7, Cond.code yX7_hasCome cX7_hasCome 5 (some .boolean), Cond.fieldLink RX7 59 "LayerMoistureModel" "byWet" "[Z", Cond.fieldLink RX7 62 "LayerMoistureModel" "times" "[I", Cond.methodLink RX7 155 yX7_meanOf, Cond.instanceMethod yX7_meanOf, Cond.selects RX7 yX7_meanOf yX7_meanOf, Cond.code yX7_meanOf cX7_meanOf 2 (some .double), Cond.fieldLink RX7 71 "LayerMoistureModel" "layers" "I", Cond.methodLink RX7 140 yX7_sumOf, Cond.instanceMethod yX7_sumOf]
def wsX7_hour_r2 : List Cond := [Cond.selects RX7 yX7_sumOf yX7_sumOf, Cond.code yX7_sumOf cX7_sumOf 5 (some .double), Cond.fieldLink RX7 41 "LayerMoistureModel" "wets" "[D", Cond.methodLink RX7 192 yX7_hourOf, Cond.instanceMethod yX7_hourOf, Cond.selects RX7 yX7_hourOf yX7_hourOf, Cond.code yX7_hourOf cX7_hourOf 14 none, Cond.fieldLink RX7 34 "LayerMoistureModel" "depths" "[D", Cond.fieldLink RX7 27 "LayerMoistureModel" "speed" "D", Cond.constantDouble RX7 93 (4620693217682128896), Cond.fieldLink RX7 44 "LayerMoistureModel" "next" "[D", Cond.constantDouble RX7 170 (4634204016564240384), Cond.fieldLink RX7 172 "LayerMoistureModel" "left" "D", Cond.fieldLink RX7 175 "LayerMoistureModel" "gone" "J", Cond.constantDouble RX7 179 (4679240012837945344), Cond.fieldLink RX7 99 "LayerMoistureModel" "vent" "D", Cond.methodLink RX7 162 yX7_balanceNow, Cond.instanceMethod yX7_balanceNow, Cond.selects RX7 yX7_balanceNow yX7_balanceNow, Cond.code yX7_balanceNow cX7_balanceNow 1 (some .double), Cond.constantDouble RX7 144 (4600427019358961664), Cond.constantDouble RX7 146 (4643510282981736448), Cond.constantDouble RX7 148 (4643211215818981376), Cond.methodLink RX7 166 yX7_flow]
def wsX7_hour_r3 : List Cond := [Cond.instanceMethod yX7_flow, Cond.selects RX7 yX7_flow yX7_flow, Cond.code yX7_flow cX7_flow 6 (some .double), Cond.fieldLink RX7 7 "LayerMoistureModel" "rateA" "[D", Cond.fieldLink RX7 37 "LayerMoistureModel" "kinds" "[I", Cond.fieldLink RX7 13 "LayerMoistureModel" "rateB" "[D", Cond.constantDouble RX7 160 (4611686018427387904), Cond.methodLink RX7 196 yX7_keep, Cond.instanceMethod yX7_keep, Cond.selects RX7 yX7_keep yX7_keep, Cond.code yX7_keep cX7_keep 7 none, Cond.fieldLink RX7 47 "LayerMoistureModel" "limited" "[Z", Cond.fieldLink RX7 53 "LayerMoistureModel" "kept" "[I", Cond.fieldLink RX7 50 "LayerMoistureModel" "limits" "[D", Cond.methodLink RX7 186 yX7_stressOf, Cond.instanceMethod yX7_stressOf, Cond.selects RX7 yX7_stressOf yX7_stressOf, Cond.code yX7_stressOf cX7_stressOf 6 (some .double), Cond.methodLink RX7 183 yX7_share, Cond.instanceMethod yX7_share, Cond.selects RX7 yX7_share yX7_share, Cond.code yX7_share cX7_share 5 (some .double), Cond.constantDouble RX7 150 (4598175219545276416), Cond.constantDouble RX7 181 (4599301119452119040)]
def wsX7_hour : List Cond := .code yX7_hour cX7_hour 2 none :: ((wsX7_hour_r1 ++ (wsX7_hour_r2 ++ wsX7_hour_r3)) ++ wsX70)
def wsX7_run_r1 : List Cond := [Cond.fieldLink RX7 78 "LayerMoistureModel" "thrown" "I", Cond.fieldLink RX7 152 "LayerMoistureModel" "hours" "I", Cond.methodLink RX7 199 yX7_isRefused, Cond.instanceMethod yX7_isRefused, Cond.selects RX7 yX7_isRefused yX7_isRefused, Cond.initialized RX7, Cond.code yX7_isRefused cX7_isRefused 6 (some .boolean), Cond.fieldLink RX7 75 "LayerMoistureModel" "boards" "I", Cond.fieldLink RX7 30 "LayerMoistureModel" "there" "[Z", Cond.fieldLink RX7 71 "LayerMoistureModel" "layers" "I", Cond.fieldLink RX7 41 "LayerMoistureModel" "wets" "[D", Cond.fieldLink RX7 34 "LayerMoistureModel" "depths" "[D", Cond.fieldLink RX7 27 "LayerMoistureModel" "speed" "D", Cond.constantDouble RX7 93 (4620693217682128896), Cond.constantDouble RX7 150 (4598175219545276416), Cond.fieldLink RX7 7 "LayerMoistureModel" "rateA" "[D", Cond.fieldLink RX7 37 "LayerMoistureModel" "kinds" "[I", Cond.fieldLink RX7 13 "LayerMoistureModel" "rateB" "[D", Cond.methodLink RX7 202 yX7_hour, Cond.instanceMethod yX7_hour, Cond.selects RX7 yX7_hour yX7_hour, Cond.code yX7_hour cX7_hour 2 none, Cond.fieldLink RX7 134 "LayerMoistureModel" "done" "I", Cond.fieldLink RX7 125 "LayerMoistureModel" "steps" "I"]
def wsX7_run_r2 : List Cond := [Cond.fieldLink RX7 65 "LayerMoistureModel" "kelvins" "[I", Cond.fieldLink RX7 18 "LayerMoistureModel" "kelvin" "D", Cond.fieldLink RX7 68 "LayerMoistureModel" "damps" "[I", Cond.constantDouble RX7 158 (4636737291354636288), Cond.fieldLink RX7 24 "LayerMoistureModel" "damp" "D", Cond.methodLink RX7 189 yX7_hasCome, Cond.instanceMethod yX7_hasCome, Cond.selects RX7 yX7_hasCome yX7_hasCome, Cond.code yX7_hasCome cX7_hasCome 5 (some .boolean), Cond.fieldLink RX7 59 "LayerMoistureModel" "byWet" "[Z", Cond.fieldLink RX7 62 "LayerMoistureModel" "times" "[I", Cond.methodLink RX7 155 yX7_meanOf, Cond.instanceMethod yX7_meanOf, Cond.selects RX7 yX7_meanOf yX7_meanOf, Cond.code yX7_meanOf cX7_meanOf 2 (some .double), Cond.methodLink RX7 140 yX7_sumOf, Cond.instanceMethod yX7_sumOf, Cond.selects RX7 yX7_sumOf yX7_sumOf, Cond.code yX7_sumOf cX7_sumOf 5 (some .double), Cond.methodLink RX7 192 yX7_hourOf, Cond.instanceMethod yX7_hourOf, Cond.selects RX7 yX7_hourOf yX7_hourOf, Cond.code yX7_hourOf cX7_hourOf 14 none, Cond.fieldLink RX7 44 "LayerMoistureModel" "next" "[D"]
def wsX7_run_r3 : List Cond := [Cond.constantDouble RX7 170 (4634204016564240384), Cond.fieldLink RX7 172 "LayerMoistureModel" "left" "D", Cond.fieldLink RX7 175 "LayerMoistureModel" "gone" "J", Cond.constantDouble RX7 179 (4679240012837945344), Cond.fieldLink RX7 99 "LayerMoistureModel" "vent" "D", Cond.methodLink RX7 162 yX7_balanceNow, Cond.instanceMethod yX7_balanceNow, Cond.selects RX7 yX7_balanceNow yX7_balanceNow, Cond.code yX7_balanceNow cX7_balanceNow 1 (some .double), Cond.constantDouble RX7 144 (4600427019358961664), Cond.constantDouble RX7 146 (4643510282981736448), Cond.constantDouble RX7 148 (4643211215818981376), Cond.methodLink RX7 166 yX7_flow, Cond.instanceMethod yX7_flow, Cond.selects RX7 yX7_flow yX7_flow, Cond.code yX7_flow cX7_flow 6 (some .double), Cond.constantDouble RX7 160 (4611686018427387904), Cond.methodLink RX7 196 yX7_keep, Cond.instanceMethod yX7_keep, Cond.selects RX7 yX7_keep yX7_keep, Cond.code yX7_keep cX7_keep 7 none, Cond.fieldLink RX7 47 "LayerMoistureModel" "limited" "[Z", Cond.fieldLink RX7 53 "LayerMoistureModel" "kept" "[I", Cond.fieldLink RX7 50 "LayerMoistureModel" "limits" "[D"]
def wsX7_run_r4 : List Cond := [Cond.methodLink RX7 186 yX7_stressOf, Cond.instanceMethod yX7_stressOf, Cond.selects RX7 yX7_stressOf yX7_stressOf, Cond.code yX7_stressOf cX7_stressOf 6 (some .double), Cond.methodLink RX7 183 yX7_share, Cond.instanceMethod yX7_share, Cond.selects RX7 yX7_share yX7_share, Cond.code yX7_share cX7_share 5 (some .double), Cond.constantDouble RX7 181 (4599301119452119040)]
def wsX7_run : List Cond := .code yX7_run cX7_run 3 (some .int) :: ((wsX7_run_r1 ++ (wsX7_run_r2 ++ (wsX7_run_r3 ++ wsX7_run_r4))) ++ wsX70)
def wsX7_limit : List Cond := .code yX7_limit cX7_limit 4 none :: ([.fieldLink RX7 30 "LayerMoistureModel" "there" "[Z", .fieldLink RX7 78 "LayerMoistureModel" "thrown" "I", .fieldLink RX7 47 "LayerMoistureModel" "limited" "[Z", .fieldLink RX7 50 "LayerMoistureModel" "limits" "[D", .fieldLink RX7 53 "LayerMoistureModel" "kept" "[I", .methodLink RX7 81 yX7_noBoard, .instanceMethod yX7_noBoard, .selects RX7 yX7_noBoard yX7_noBoard, .initialized RX7, .code yX7_noBoard cX7_noBoard 2 (some .boolean), .fieldLink RX7 75 "LayerMoistureModel" "boards" "I"] ++ wsX70)
def wsX7_isMissing : List Cond := .code yX7_isMissing cX7_isMissing 3 (some .boolean) :: ([.fieldLink RX7 30 "LayerMoistureModel" "there" "[Z", .fieldLink RX7 78 "LayerMoistureModel" "thrown" "I"] ++ wsX70)
def wsX7_check : List Cond := .code yX7_check cX7_check 2 (some .int) :: ([.fieldLink RX7 53 "LayerMoistureModel" "kept" "[I", .methodLink RX7 81 yX7_noBoard, .instanceMethod yX7_noBoard, .selects RX7 yX7_noBoard yX7_noBoard, .initialized RX7, .code yX7_noBoard cX7_noBoard 2 (some .boolean), .fieldLink RX7 75 "LayerMoistureModel" "boards" "I", .methodLink RX7 205 yX7_isMissing, .instanceMethod yX7_isMissing, .selects RX7 yX7_isMissing yX7_isMissing, .code yX7_isMissing cX7_isMissing 3 (some .boolean), .fieldLink RX7 30 "LayerMoistureModel" "there" "[Z", .fieldLink RX7 78 "LayerMoistureModel" "thrown" "I"] ++ wsX70)
def wsX7_wet : List Cond := .code yX7_wet cX7_wet 3 (some .double) :: ([.fieldLink RX7 41 "LayerMoistureModel" "wets" "[D", .methodLink RX7 102 yX7_noLayer, .instanceMethod yX7_noLayer, .selects RX7 yX7_noLayer yX7_noLayer, .initialized RX7, .code yX7_noLayer cX7_noLayer 3 (some .boolean), .fieldLink RX7 71 "LayerMoistureModel" "layers" "I", .methodLink RX7 81 yX7_noBoard, .instanceMethod yX7_noBoard, .selects RX7 yX7_noBoard yX7_noBoard, .code yX7_noBoard cX7_noBoard 2 (some .boolean), .fieldLink RX7 75 "LayerMoistureModel" "boards" "I", .methodLink RX7 205 yX7_isMissing, .instanceMethod yX7_isMissing, .selects RX7 yX7_isMissing yX7_isMissing, .code yX7_isMissing cX7_isMissing 3 (some .boolean), .fieldLink RX7 30 "LayerMoistureModel" "there" "[Z", .fieldLink RX7 78 "LayerMoistureModel" "thrown" "I"] ++ wsX70)
def wsX7_mean : List Cond := .code yX7_mean cX7_mean 2 (some .double) :: ([.methodLink RX7 81 yX7_noBoard, .instanceMethod yX7_noBoard, .selects RX7 yX7_noBoard yX7_noBoard, .initialized RX7, .code yX7_noBoard cX7_noBoard 2 (some .boolean), .fieldLink RX7 75 "LayerMoistureModel" "boards" "I", .methodLink RX7 205 yX7_isMissing, .instanceMethod yX7_isMissing, .selects RX7 yX7_isMissing yX7_isMissing, .code yX7_isMissing cX7_isMissing 3 (some .boolean), .fieldLink RX7 30 "LayerMoistureModel" "there" "[Z", .fieldLink RX7 78 "LayerMoistureModel" "thrown" "I", .methodLink RX7 155 yX7_meanOf, .instanceMethod yX7_meanOf, .selects RX7 yX7_meanOf yX7_meanOf, .code yX7_meanOf cX7_meanOf 2 (some .double), .fieldLink RX7 71 "LayerMoistureModel" "layers" "I", .methodLink RX7 140 yX7_sumOf, .instanceMethod yX7_sumOf, .selects RX7 yX7_sumOf yX7_sumOf, .code yX7_sumOf cX7_sumOf 5 (some .double), .fieldLink RX7 41 "LayerMoistureModel" "wets" "[D"] ++ wsX70)
def wsX7_stress_r1 : List Cond := [Cond.methodLink RX7 102 yX7_noLayer, Cond.instanceMethod yX7_noLayer, Cond.selects RX7 yX7_noLayer yX7_noLayer, Cond.initialized RX7, Cond.code yX7_noLayer cX7_noLayer 3 (some .boolean), Cond.fieldLink RX7 71 "LayerMoistureModel" "layers" "I", Cond.methodLink RX7 81 yX7_noBoard, Cond.instanceMethod yX7_noBoard, Cond.selects RX7 yX7_noBoard yX7_noBoard, Cond.code yX7_noBoard cX7_noBoard 2 (some .boolean), Cond.fieldLink RX7 75 "LayerMoistureModel" "boards" "I", Cond.methodLink RX7 205 yX7_isMissing, Cond.instanceMethod yX7_isMissing, Cond.selects RX7 yX7_isMissing yX7_isMissing, Cond.code yX7_isMissing cX7_isMissing 3 (some .boolean), Cond.fieldLink RX7 30 "LayerMoistureModel" "there" "[Z", Cond.fieldLink RX7 78 "LayerMoistureModel" "thrown" "I", Cond.methodLink RX7 186 yX7_stressOf, Cond.instanceMethod yX7_stressOf, Cond.selects RX7 yX7_stressOf yX7_stressOf, Cond.code yX7_stressOf cX7_stressOf 6 (some .double), Cond.methodLink RX7 183 yX7_share, Cond.instanceMethod yX7_share, Cond.selects RX7 yX7_share yX7_share]
def wsX7_stress_r2 : List Cond := [Cond.code yX7_share cX7_share 5 (some .double), Cond.fieldLink RX7 41 "LayerMoistureModel" "wets" "[D", Cond.constantDouble RX7 150 (4598175219545276416), Cond.constantDouble RX7 181 (4599301119452119040)]
def wsX7_stress : List Cond := .code yX7_stress cX7_stress 3 (some .double) :: ((wsX7_stress_r1 ++ wsX7_stress_r2) ++ wsX70)
def wsX7_balance : List Cond := .code yX7_balance cX7_balance 1 (some .double) :: ([.fieldLink RX7 78 "LayerMoistureModel" "thrown" "I", .methodLink RX7 162 yX7_balanceNow, .instanceMethod yX7_balanceNow, .selects RX7 yX7_balanceNow yX7_balanceNow, .initialized RX7, .code yX7_balanceNow cX7_balanceNow 1 (some .double), .constantDouble RX7 144 (4600427019358961664), .fieldLink RX7 24 "LayerMoistureModel" "damp" "D", .fieldLink RX7 18 "LayerMoistureModel" "kelvin" "D", .constantDouble RX7 146 (4643510282981736448), .constantDouble RX7 148 (4643211215818981376)] ++ wsX70)
def wsX7_told : List Cond := .code yX7_told cX7_told 2 (some .double) :: ([.fieldLink RX7 78 "LayerMoistureModel" "thrown" "I", .fieldLink RX7 18 "LayerMoistureModel" "kelvin" "D", .fieldLink RX7 24 "LayerMoistureModel" "damp" "D", .fieldLink RX7 27 "LayerMoistureModel" "speed" "D", .fieldLink RX7 99 "LayerMoistureModel" "vent" "D", .fieldLink RX7 172 "LayerMoistureModel" "left" "D"] ++ wsX70)
def wsX7_grams : List Cond := .code yX7_grams cX7_grams 1 (some .long) :: ([.fieldLink RX7 78 "LayerMoistureModel" "thrown" "I", .fieldLink RX7 175 "LayerMoistureModel" "gone" "J"] ++ wsX70)
def wsX7_count : List Cond := .code yX7_count cX7_count 4 (some .int) :: ([.fieldLink RX7 78 "LayerMoistureModel" "thrown" "I", .fieldLink RX7 152 "LayerMoistureModel" "hours" "I", .fieldLink RX7 134 "LayerMoistureModel" "done" "I", .fieldLink RX7 75 "LayerMoistureModel" "boards" "I", .fieldLink RX7 30 "LayerMoistureModel" "there" "[Z"] ++ wsX70)
def wsJx00060_init_a7421 : List Cond := .code yJx00060_init_a7421 cJx00060_init_a7421 2 none :: ([])
def wsJ9_max_7cf53 : List Cond := .code yJ9_max_7cf53 cJ9_max_7cf53 2 (some .int) :: ([])
def wsJ9_min_7cf53 : List Cond := .code yJ9_min_7cf53 cJ9_min_7cf53 2 (some .int) :: ([])
def wsL_cell : List Cond := .code yL_cell cL_cell 2 (some .int) :: ([])
def wsL_board_r1 : List Cond := [Cond.classLink RL 13 "java/lang/ArrayIndexOutOfBoundsException", Cond.classLink RL 15 "java/lang/IllegalArgumentException", Cond.methodLink RL 7 yX6_board, Cond.instanceMethod yX6_board, Cond.selects RX6 yX6_board yX6_board, Cond.initialized RX6, Cond.code yX6_board cX6_board 9 none, Cond.constantDouble RX6 74 (4645744490609377280), Cond.constantDouble RX6 80 (4613937818241073152), Cond.methodLink RX6 66 yX6_slotOf, Cond.instanceMethod yX6_slotOf, Cond.selects RX6 yX6_slotOf yX6_slotOf, Cond.code yX6_slotOf cX6_slotOf 2 (some (.object "LayerMoisture$Board")), Cond.fieldLink RX6 31 "LayerMoisture" "boards" "[LLayerMoisture$Board;", Cond.classLink RX6 177 RJx00060, Cond.instantiable RJx00060 6, Cond.initialized RJx00060, Cond.methodLink RX6 70 yX6_kindOf, Cond.instanceMethod yX6_kindOf, Cond.selects RX6 yX6_kindOf yX6_kindOf, Cond.code yX6_kindOf cX6_kindOf 2 (some (.object "LayerMoisture$Kind")), Cond.fieldLink RX6 24 "LayerMoisture" "kinds" "[LLayerMoisture$Kind;", Cond.methodLink RX6 76 yX6_requireWithin, Cond.static yX6_requireWithin]
def wsL_board_r2 : List Cond := [Cond.code yX6_requireWithin cX6_requireWithin 6 none, Cond.classLink RX6 131 "java/lang/IllegalArgumentException", Cond.initialized "java/lang/IllegalArgumentException", Cond.methodLink RX6 82 yX1_lay, Cond.instanceMethod yX1_lay, Cond.selects RX1 yX1_lay yX1_lay, Cond.initialized RX1, Cond.code yX1_lay cX1_lay 7 none, Cond.fieldLink RX1 19 "LayerMoisture$Board" "there" "Z", Cond.fieldLink RX1 9 "LayerMoisture$Board" "wetness" "[D", Cond.fieldLink RX1 23 "LayerMoisture$Board" "depth" "D", Cond.fieldLink RX1 15 "LayerMoisture$Board" "kind" "LLayerMoisture$Kind;", Cond.fieldLink RX1 27 "LayerMoisture$Board" "limited" "Z", Cond.fieldLink RX1 30 "LayerMoisture$Board" "keptHour" "I"]
def wsL_board : List Cond := .codeWith yL_board cL_board 8 (some .int) [(0, 10, 13, 13), (0, 10, 17, 15)] :: ((wsL_board_r1 ++ wsL_board_r2) ++ wsX60 ++ wsJx000600 ++ wsX10 ++ (vx_atS RX6 135 "java/lang/IllegalArgumentException" ["java/lang/RuntimeException", "java/lang/Exception"]).filter goodWord)
def wsL_rate : List Cond := .codeWith yL_rate cL_rate 7 (some .int) [(0, 8, 11, 13), (0, 8, 15, 15)] :: ([.classLink RL 13 "java/lang/ArrayIndexOutOfBoundsException", .classLink RL 15 "java/lang/IllegalArgumentException", .methodLink RL 17 yX6_rate, .instanceMethod yX6_rate, .selects RX6 yX6_rate yX6_rate, .initialized RX6, .code yX6_rate cX6_rate 7 none, .constantDouble RX6 86 (4620693217682128896), .fieldLink RX6 88 "LayerMoisture$Kind" "a" "D", .fieldLink RX6 92 "LayerMoisture$Kind" "b" "D", .methodLink RX6 70 yX6_kindOf, .instanceMethod yX6_kindOf, .selects RX6 yX6_kindOf yX6_kindOf, .code yX6_kindOf cX6_kindOf 2 (some (.object "LayerMoisture$Kind")), .fieldLink RX6 24 "LayerMoisture" "kinds" "[LLayerMoisture$Kind;", .classLink RX6 177 RJx00060, .instantiable RJx00060 6, .initialized RJx00060, .methodLink RX6 76 yX6_requireWithin, .static yX6_requireWithin, .code yX6_requireWithin cX6_requireWithin 6 none, .classLink RX6 131 "java/lang/IllegalArgumentException", .initialized "java/lang/IllegalArgumentException"] ++ wsX20 ++ wsX60 ++ wsJx000600 ++ (vx_atS RX6 135 "java/lang/IllegalArgumentException" ["java/lang/RuntimeException", "java/lang/Exception"]).filter goodWord)
def wsL_air : List Cond := .codeWith yL_air cL_air 8 (some .int) [(0, 8, 11, 15)] :: ([.classLink RL 15 "java/lang/IllegalArgumentException", .methodLink RL 21 yX6_air, .instanceMethod yX6_air, .selects RX6 yX6_air yX6_air, .initialized RX6, .code yX6_air cX6_air 7 none, .constantDouble RX6 95 (4643000109586448384), .constantDouble RX6 74 (4645744490609377280), .constantDouble RX6 97 (4625196817309499392), .fieldLink RX6 41 "LayerMoisture" "state" "LLayerMoisture$Air;", .fieldLink RX6 99 "LayerMoisture$Air" "kelvin" "D", .fieldLink RX6 102 "LayerMoisture$Air" "damp" "D", .fieldLink RX6 105 "LayerMoisture$Air" "speed" "D", .methodLink RX6 76 yX6_requireWithin, .static yX6_requireWithin, .code yX6_requireWithin cX6_requireWithin 6 none, .classLink RX6 131 "java/lang/IllegalArgumentException", .initialized "java/lang/IllegalArgumentException"] ++ wsX60 ++ wsX00 ++ (vx_atS RX6 135 "java/lang/IllegalArgumentException" ["java/lang/RuntimeException", "java/lang/Exception"]).filter goodWord)
def wsL_vent : List Cond := .codeWith yL_vent cL_vent 4 (some .int) [(0, 5, 8, 15)] :: ([.classLink RL 15 "java/lang/IllegalArgumentException", .methodLink RL 25 yX6_vent, .instanceMethod yX6_vent, .selects RX6 yX6_vent yX6_vent, .initialized RX6, .code yX6_vent cX6_vent 3 none, .fieldLink RX6 41 "LayerMoisture" "state" "LLayerMoisture$Air;", .fieldLink RX6 108 "LayerMoisture$Air" "ventShare" "D", .methodLink RX6 76 yX6_requireWithin, .static yX6_requireWithin, .code yX6_requireWithin cX6_requireWithin 6 none, .classLink RX6 131 "java/lang/IllegalArgumentException", .initialized "java/lang/IllegalArgumentException"] ++ wsX60 ++ wsX00 ++ (vx_atS RX6 135 "java/lang/IllegalArgumentException" ["java/lang/RuntimeException", "java/lang/Exception"]).filter goodWord)
def wsL_soak_r1 : List Cond := [Cond.classLink RL 13 "java/lang/ArrayIndexOutOfBoundsException", Cond.classLink RL 15 "java/lang/IllegalArgumentException", Cond.classLink RL 33 "java/lang/IllegalStateException", Cond.methodLink RL 29 yX6_soak, Cond.instanceMethod yX6_soak, Cond.selects RX6 yX6_soak yX6_soak, Cond.initialized RX6, Cond.code yX6_soak cX6_soak 6 none, Cond.constantDouble RX6 80 (4613937818241073152), Cond.fieldLink RX6 119 "LayerMoisture$Board" "wetness" "[D", Cond.methodLink RX6 66 yX6_slotOf, Cond.instanceMethod yX6_slotOf, Cond.selects RX6 yX6_slotOf yX6_slotOf, Cond.code yX6_slotOf cX6_slotOf 2 (some (.object "LayerMoisture$Board")), Cond.fieldLink RX6 31 "LayerMoisture" "boards" "[LLayerMoisture$Board;", Cond.classLink RX6 177 RJx00060, Cond.instantiable RJx00060 6, Cond.initialized RJx00060, Cond.methodLink RX6 111 yX6_requireLayer, Cond.instanceMethod yX6_requireLayer, Cond.selects RX6 yX6_requireLayer yX6_requireLayer, Cond.code yX6_requireLayer cX6_requireLayer 2 none, Cond.fieldLink RX6 18 "LayerMoisture" "layerCount" "I", Cond.methodLink RX6 76 yX6_requireWithin]
def wsL_soak_r2 : List Cond := [Cond.static yX6_requireWithin, Cond.code yX6_requireWithin cX6_requireWithin 6 none, Cond.classLink RX6 131 "java/lang/IllegalArgumentException", Cond.initialized "java/lang/IllegalArgumentException", Cond.methodLink RX6 115 yX6_requireThere, Cond.static yX6_requireThere, Cond.code yX6_requireThere cX6_requireThere 1 none, Cond.classLink RX6 205 "java/lang/IllegalStateException", Cond.initialized "java/lang/IllegalStateException", Cond.fieldLink RX6 201 "LayerMoisture$Board" "there" "Z"]
def wsL_soak : List Cond := .codeWith yL_soak cL_soak 6 (some .int) [(0, 7, 10, 13), (0, 7, 14, 15), (0, 7, 18, 33)] :: ((wsL_soak_r1 ++ wsL_soak_r2) ++ wsX10 ++ wsX60 ++ wsJx000600 ++ (vx_atS RX6 135 "java/lang/IllegalArgumentException" ["java/lang/RuntimeException", "java/lang/Exception"]).filter goodWord ++ (vx_atS RX6 209 "java/lang/IllegalStateException" ["java/lang/RuntimeException", "java/lang/Exception"]).filter goodWord)
def wsL_run_r1 : List Cond := [Cond.classLink RL 15 "java/lang/IllegalArgumentException", Cond.methodLink RL 35 yX6_run, Cond.instanceMethod yX6_run, Cond.selects RX6 yX6_run yX6_run, Cond.initialized RX6, Cond.code yX6_run cX6_run 3 (some .int), Cond.classLink RX6 131 "java/lang/IllegalArgumentException", Cond.initialized "java/lang/IllegalArgumentException", Cond.fieldLink RX6 142 "LayerMoisture" "hoursPassed" "I", Cond.methodLink RX6 138 yX6_isRefused, Cond.instanceMethod yX6_isRefused, Cond.selects RX6 yX6_isRefused yX6_isRefused, Cond.code yX6_isRefused cX6_isRefused 2 (some .boolean), Cond.fieldLink RX6 31 "LayerMoisture" "boards" "[LLayerMoisture$Board;", Cond.fieldLink RX6 201 "LayerMoisture$Board" "there" "Z", Cond.fieldLink RX6 41 "LayerMoisture" "state" "LLayerMoisture$Air;", Cond.fieldLink RX6 105 "LayerMoisture$Air" "speed" "D", Cond.methodLink RX6 212 yX1_refuses, Cond.instanceMethod yX1_refuses, Cond.selects RX1 yX1_refuses yX1_refuses, Cond.initialized RX1, Cond.code yX1_refuses cX1_refuses 3 (some .boolean), Cond.constantDouble RX1 37 (4620693217682128896), Cond.fieldLink RX1 23 "LayerMoisture$Board" "depth" "D"]
def wsL_run_r2 : List Cond := [Cond.constantDouble RX1 39 (4598175219545276416), Cond.fieldLink RX1 15 "LayerMoisture$Board" "kind" "LLayerMoisture$Kind;", Cond.methodLink RX1 41 yX1_greatestWetness, Cond.instanceMethod yX1_greatestWetness, Cond.selects RX1 yX1_greatestWetness yX1_greatestWetness, Cond.code yX1_greatestWetness cX1_greatestWetness 4 (some .double), Cond.fieldLink RX1 9 "LayerMoisture$Board" "wetness" "[D", Cond.methodLink RX1 45 yX2_speedAt, Cond.instanceMethod yX2_speedAt, Cond.selects RX2 yX2_speedAt yX2_speedAt, Cond.initialized RX2, Cond.code yX2_speedAt cX2_speedAt 3 (some .double), Cond.fieldLink RX2 7 "LayerMoisture$Kind" "a" "D", Cond.fieldLink RX2 13 "LayerMoisture$Kind" "b" "D", Cond.methodLink RX6 145 yX6_passHour, Cond.instanceMethod yX6_passHour, Cond.selects RX6 yX6_passHour yX6_passHour, Cond.code yX6_passHour cX6_passHour 4 none, Cond.fieldLink RX6 48 "LayerMoisture" "ledger" "LLayerMoisture$Ledger;", Cond.methodLink RX6 216 yX6_followPlan, Cond.instanceMethod yX6_followPlan, Cond.selects RX6 yX6_followPlan yX6_followPlan, Cond.code yX6_followPlan cX6_followPlan 1 none, Cond.fieldLink RX6 62 "LayerMoisture" "plan" "LLayerMoisture$Plan;"]
def wsL_run_r3 : List Cond := [Cond.fieldLink RX6 186 "LayerMoisture$Plan" "done" "I", Cond.fieldLink RX6 232 "LayerMoisture$Plan" "steps" "I", Cond.fieldLink RX6 238 "LayerMoisture$Plan" "kelvins" "[I", Cond.fieldLink RX6 99 "LayerMoisture$Air" "kelvin" "D", Cond.fieldLink RX6 242 "LayerMoisture$Plan" "damps" "[I", Cond.constantDouble RX6 245 (4636737291354636288), Cond.fieldLink RX6 102 "LayerMoisture$Air" "damp" "D", Cond.methodLink RX6 235 yX6_isStepDue, Cond.instanceMethod yX6_isStepDue, Cond.selects RX6 yX6_isStepDue yX6_isStepDue, Cond.code yX6_isStepDue cX6_isStepDue 2 (some .boolean), Cond.fieldLink RX6 247 "LayerMoisture$Plan" "byHours" "[Z", Cond.fieldLink RX6 251 "LayerMoisture$Plan" "times" "[I", Cond.methodLink RX6 189 yX6_boardsThere, Cond.instanceMethod yX6_boardsThere, Cond.selects RX6 yX6_boardsThere yX6_boardsThere, Cond.code yX6_boardsThere cX6_boardsThere 3 (some .int), Cond.methodLink RX6 254 yX6_isAnyWetterThan, Cond.instanceMethod yX6_isAnyWetterThan, Cond.selects RX6 yX6_isAnyWetterThan yX6_isAnyWetterThan, Cond.code yX6_isAnyWetterThan cX6_isAnyWetterThan 4 (some .boolean), Cond.methodLink RX6 160 yX1_meanWetness, Cond.instanceMethod yX1_meanWetness, Cond.selects RX1 yX1_meanWetness yX1_meanWetness]
def wsL_run_r4 : List Cond := [Cond.code yX1_meanWetness cX1_meanWetness 4 (some .double), Cond.methodLink RX6 171 yX0_balanceNow, Cond.instanceMethod yX0_balanceNow, Cond.selects RX0 yX0_balanceNow yX0_balanceNow, Cond.initialized RX0, Cond.code yX0_balanceNow cX0_balanceNow 1 (some .double), Cond.constantDouble RX0 26 (4600427019358961664), Cond.fieldLink RX0 17 "LayerMoisture$Air" "damp" "D", Cond.fieldLink RX0 9 "LayerMoisture$Air" "kelvin" "D", Cond.constantDouble RX0 28 (4643510282981736448), Cond.constantDouble RX0 30 (4643211215818981376), Cond.methodLink RX6 219 yX1_dry, Cond.instanceMethod yX1_dry, Cond.selects RX1 yX1_dry yX1_dry, Cond.code yX1_dry cX1_dry 15 (some .double), Cond.constantDouble RX1 59 (4634204016564240384), Cond.methodLink RX1 51 yX1_faceFlow, Cond.instanceMethod yX1_faceFlow, Cond.selects RX1 yX1_faceFlow yX1_faceFlow, Cond.code yX1_faceFlow cX1_faceFlow 7 (some .double), Cond.methodLink RX1 55 yX1_slopeFlow, Cond.instanceMethod yX1_slopeFlow, Cond.selects RX1 yX1_slopeFlow yX1_slopeFlow, Cond.code yX1_slopeFlow cX1_slopeFlow 5 (some .double)]
def wsL_run_r5 : List Cond := [Cond.constantDouble RX1 61 (4611686018427387904), Cond.methodLink RX6 223 yX3_take, Cond.instanceMethod yX3_take, Cond.selects RX3 yX3_take yX3_take, Cond.initialized RX3, Cond.code yX3_take cX3_take 5 none, Cond.fieldLink RX3 7 "LayerMoisture$Ledger" "rest" "D", Cond.fieldLink RX3 13 "LayerMoisture$Ledger" "gone" "J", Cond.methodLink RX6 226 yX0_takeUp, Cond.instanceMethod yX0_takeUp, Cond.selects RX0 yX0_takeUp yX0_takeUp, Cond.code yX0_takeUp cX0_takeUp 5 none, Cond.constantDouble RX0 32 (4679240012837945344), Cond.fieldLink RX0 23 "LayerMoisture$Air" "ventShare" "D", Cond.methodLink RX6 229 yX1_watchLoad, Cond.instanceMethod yX1_watchLoad, Cond.selects RX1 yX1_watchLoad yX1_watchLoad, Cond.code yX1_watchLoad cX1_watchLoad 2 none, Cond.fieldLink RX1 27 "LayerMoisture$Board" "limited" "Z", Cond.fieldLink RX1 30 "LayerMoisture$Board" "keptHour" "I", Cond.fieldLink RX1 34 "LayerMoisture$Board" "loadLimit" "D", Cond.methodLink RX1 71 yX1_greatestLoad, Cond.instanceMethod yX1_greatestLoad, Cond.selects RX1 yX1_greatestLoad yX1_greatestLoad]
def wsL_run_r6 : List Cond := [Cond.code yX1_greatestLoad cX1_greatestLoad 10 (some .double), Cond.methodLink RX1 68 yX1_meanShrinkage, Cond.instanceMethod yX1_meanShrinkage, Cond.selects RX1 yX1_meanShrinkage yX1_meanShrinkage, Cond.code yX1_meanShrinkage cX1_meanShrinkage 4 (some .double), Cond.methodLink RX1 65 yX1_shrinkage, Cond.static yX1_shrinkage, Cond.code yX1_shrinkage cX1_shrinkage 2 (some .double), Cond.constantDouble RX1 63 (4599301119452119040)]
def wsL_run : List Cond := .codeWith yL_run cL_run 4 (some .int) [(0, 9, 12, 15)] :: ((wsL_run_r1 ++ (wsL_run_r2 ++ (wsL_run_r3 ++ (wsL_run_r4 ++ (wsL_run_r5 ++ wsL_run_r6))))) ++ wsX60 ++ wsX10 ++ wsX00 ++ wsX20 ++ wsX40 ++ wsX30 ++ (vx_atS RX6 135 "java/lang/IllegalArgumentException" ["java/lang/RuntimeException", "java/lang/Exception"]).filter goodWord)
def wsL_limit_r1 : List Cond := [Cond.classLink RL 13 "java/lang/ArrayIndexOutOfBoundsException", Cond.classLink RL 15 "java/lang/IllegalArgumentException", Cond.classLink RL 33 "java/lang/IllegalStateException", Cond.methodLink RL 39 yX6_limit, Cond.instanceMethod yX6_limit, Cond.selects RX6 yX6_limit yX6_limit, Cond.initialized RX6, Cond.code yX6_limit cX6_limit 5 none, Cond.classLink RX6 131 "java/lang/IllegalArgumentException", Cond.initialized "java/lang/IllegalArgumentException", Cond.methodLink RX6 66 yX6_slotOf, Cond.instanceMethod yX6_slotOf, Cond.selects RX6 yX6_slotOf yX6_slotOf, Cond.code yX6_slotOf cX6_slotOf 2 (some (.object "LayerMoisture$Board")), Cond.fieldLink RX6 31 "LayerMoisture" "boards" "[LLayerMoisture$Board;", Cond.classLink RX6 177 RJx00060, Cond.instantiable RJx00060 6, Cond.initialized RJx00060, Cond.methodLink RX6 115 yX6_requireThere, Cond.static yX6_requireThere, Cond.code yX6_requireThere cX6_requireThere 1 none, Cond.classLink RX6 205 "java/lang/IllegalStateException", Cond.initialized "java/lang/IllegalStateException", Cond.fieldLink RX6 201 "LayerMoisture$Board" "there" "Z"]
def wsL_limit_r2 : List Cond := [Cond.methodLink RX6 150 yX1_setLimit, Cond.instanceMethod yX1_setLimit, Cond.selects RX1 yX1_setLimit yX1_setLimit, Cond.initialized RX1, Cond.code yX1_setLimit cX1_setLimit 3 none, Cond.fieldLink RX1 27 "LayerMoisture$Board" "limited" "Z", Cond.fieldLink RX1 34 "LayerMoisture$Board" "loadLimit" "D", Cond.fieldLink RX1 30 "LayerMoisture$Board" "keptHour" "I"]
def wsL_limit : List Cond := .codeWith yL_limit cL_limit 5 (some .int) [(0, 6, 9, 13), (0, 6, 13, 15), (0, 6, 17, 33)] :: ((wsL_limit_r1 ++ wsL_limit_r2) ++ wsX60 ++ wsJx000600 ++ wsX10 ++ (vx_atS RX6 135 "java/lang/IllegalArgumentException" ["java/lang/RuntimeException", "java/lang/Exception"]).filter goodWord ++ (vx_atS RX6 209 "java/lang/IllegalStateException" ["java/lang/RuntimeException", "java/lang/Exception"]).filter goodWord)
def wsL_check_r1 : List Cond := [Cond.classLink RL 13 "java/lang/ArrayIndexOutOfBoundsException", Cond.classLink RL 33 "java/lang/IllegalStateException", Cond.methodLink RL 43 yX6_check, Cond.instanceMethod yX6_check, Cond.selects RX6 yX6_check yX6_check, Cond.initialized RX6, Cond.code yX6_check cX6_check 2 (some .int), Cond.fieldLink RX6 157 "LayerMoisture$Board" "keptHour" "I", Cond.methodLink RX6 154 yX6_boardThere, Cond.instanceMethod yX6_boardThere, Cond.selects RX6 yX6_boardThere yX6_boardThere, Cond.code yX6_boardThere cX6_boardThere 3 (some (.object "LayerMoisture$Board")), Cond.methodLink RX6 66 yX6_slotOf, Cond.instanceMethod yX6_slotOf, Cond.selects RX6 yX6_slotOf yX6_slotOf, Cond.code yX6_slotOf cX6_slotOf 2 (some (.object "LayerMoisture$Board")), Cond.fieldLink RX6 31 "LayerMoisture" "boards" "[LLayerMoisture$Board;", Cond.classLink RX6 177 RJx00060, Cond.instantiable RJx00060 6, Cond.initialized RJx00060, Cond.methodLink RX6 115 yX6_requireThere, Cond.static yX6_requireThere, Cond.code yX6_requireThere cX6_requireThere 1 none, Cond.classLink RX6 205 "java/lang/IllegalStateException"]
def wsL_check_r2 : List Cond := [Cond.initialized "java/lang/IllegalStateException", Cond.fieldLink RX6 201 "LayerMoisture$Board" "there" "Z"]
def wsL_check : List Cond := .codeWith yL_check cL_check 4 (some .int) [(0, 9, 12, 13), (0, 9, 15, 33)] :: ((wsL_check_r1 ++ wsL_check_r2) ++ wsX10 ++ wsX60 ++ wsJx000600 ++ (vx_atS RX6 209 "java/lang/IllegalStateException" ["java/lang/RuntimeException", "java/lang/Exception"]).filter goodWord)
def wsL_wet_r1 : List Cond := [Cond.classLink RL 13 "java/lang/ArrayIndexOutOfBoundsException", Cond.classLink RL 33 "java/lang/IllegalStateException", Cond.methodLink RL 46 yX6_wet, Cond.instanceMethod yX6_wet, Cond.selects RX6 yX6_wet yX6_wet, Cond.initialized RX6, Cond.code yX6_wet cX6_wet 4 (some .double), Cond.fieldLink RX6 119 "LayerMoisture$Board" "wetness" "[D", Cond.methodLink RX6 66 yX6_slotOf, Cond.instanceMethod yX6_slotOf, Cond.selects RX6 yX6_slotOf yX6_slotOf, Cond.code yX6_slotOf cX6_slotOf 2 (some (.object "LayerMoisture$Board")), Cond.fieldLink RX6 31 "LayerMoisture" "boards" "[LLayerMoisture$Board;", Cond.classLink RX6 177 RJx00060, Cond.instantiable RJx00060 6, Cond.initialized RJx00060, Cond.methodLink RX6 111 yX6_requireLayer, Cond.instanceMethod yX6_requireLayer, Cond.selects RX6 yX6_requireLayer yX6_requireLayer, Cond.code yX6_requireLayer cX6_requireLayer 2 none, Cond.fieldLink RX6 18 "LayerMoisture" "layerCount" "I", Cond.methodLink RX6 115 yX6_requireThere, Cond.static yX6_requireThere, Cond.code yX6_requireThere cX6_requireThere 1 none]
def wsL_wet_r2 : List Cond := [Cond.classLink RX6 205 "java/lang/IllegalStateException", Cond.initialized "java/lang/IllegalStateException", Cond.fieldLink RX6 201 "LayerMoisture$Board" "there" "Z"]
def wsL_wet : List Cond := .codeWith yL_wet cL_wet 5 (some .int) [(0, 9, 12, 13), (0, 9, 16, 33)] :: ((wsL_wet_r1 ++ wsL_wet_r2) ++ wsX10 ++ wsX60 ++ wsJx000600 ++ (vx_atS RX6 209 "java/lang/IllegalStateException" ["java/lang/RuntimeException", "java/lang/Exception"]).filter goodWord)
def wsL_mean_r1 : List Cond := [Cond.classLink RL 13 "java/lang/ArrayIndexOutOfBoundsException", Cond.classLink RL 33 "java/lang/IllegalStateException", Cond.methodLink RL 50 yX6_mean, Cond.instanceMethod yX6_mean, Cond.selects RX6 yX6_mean yX6_mean, Cond.initialized RX6, Cond.code yX6_mean cX6_mean 2 (some .double), Cond.methodLink RX6 154 yX6_boardThere, Cond.instanceMethod yX6_boardThere, Cond.selects RX6 yX6_boardThere yX6_boardThere, Cond.code yX6_boardThere cX6_boardThere 3 (some (.object "LayerMoisture$Board")), Cond.methodLink RX6 66 yX6_slotOf, Cond.instanceMethod yX6_slotOf, Cond.selects RX6 yX6_slotOf yX6_slotOf, Cond.code yX6_slotOf cX6_slotOf 2 (some (.object "LayerMoisture$Board")), Cond.fieldLink RX6 31 "LayerMoisture" "boards" "[LLayerMoisture$Board;", Cond.classLink RX6 177 RJx00060, Cond.instantiable RJx00060 6, Cond.initialized RJx00060, Cond.methodLink RX6 115 yX6_requireThere, Cond.static yX6_requireThere, Cond.code yX6_requireThere cX6_requireThere 1 none, Cond.classLink RX6 205 "java/lang/IllegalStateException", Cond.initialized "java/lang/IllegalStateException"]
def wsL_mean_r2 : List Cond := [Cond.fieldLink RX6 201 "LayerMoisture$Board" "there" "Z", Cond.methodLink RX6 160 yX1_meanWetness, Cond.instanceMethod yX1_meanWetness, Cond.selects RX1 yX1_meanWetness yX1_meanWetness, Cond.initialized RX1, Cond.code yX1_meanWetness cX1_meanWetness 4 (some .double), Cond.fieldLink RX1 9 "LayerMoisture$Board" "wetness" "[D"]
def wsL_mean : List Cond := .codeWith yL_mean cL_mean 4 (some .int) [(0, 8, 11, 13), (0, 8, 14, 33)] :: ((wsL_mean_r1 ++ wsL_mean_r2) ++ wsX60 ++ wsJx000600 ++ wsX10 ++ (vx_atS RX6 209 "java/lang/IllegalStateException" ["java/lang/RuntimeException", "java/lang/Exception"]).filter goodWord)
def wsL_stress_r1 : List Cond := [Cond.classLink RL 13 "java/lang/ArrayIndexOutOfBoundsException", Cond.classLink RL 33 "java/lang/IllegalStateException", Cond.methodLink RL 54 yX6_stress, Cond.instanceMethod yX6_stress, Cond.selects RX6 yX6_stress yX6_stress, Cond.initialized RX6, Cond.code yX6_stress cX6_stress 4 (some .double), Cond.fieldLink RX6 119 "LayerMoisture$Board" "wetness" "[D", Cond.methodLink RX6 66 yX6_slotOf, Cond.instanceMethod yX6_slotOf, Cond.selects RX6 yX6_slotOf yX6_slotOf, Cond.code yX6_slotOf cX6_slotOf 2 (some (.object "LayerMoisture$Board")), Cond.fieldLink RX6 31 "LayerMoisture" "boards" "[LLayerMoisture$Board;", Cond.classLink RX6 177 RJx00060, Cond.instantiable RJx00060 6, Cond.initialized RJx00060, Cond.methodLink RX6 111 yX6_requireLayer, Cond.instanceMethod yX6_requireLayer, Cond.selects RX6 yX6_requireLayer yX6_requireLayer, Cond.code yX6_requireLayer cX6_requireLayer 2 none, Cond.fieldLink RX6 18 "LayerMoisture" "layerCount" "I", Cond.methodLink RX6 115 yX6_requireThere, Cond.static yX6_requireThere, Cond.code yX6_requireThere cX6_requireThere 1 none]
def wsL_stress_r2 : List Cond := [Cond.classLink RX6 205 "java/lang/IllegalStateException", Cond.initialized "java/lang/IllegalStateException", Cond.fieldLink RX6 201 "LayerMoisture$Board" "there" "Z", Cond.methodLink RX6 164 yX1_shrinkage, Cond.static yX1_shrinkage, Cond.initialized RX1, Cond.code yX1_shrinkage cX1_shrinkage 2 (some .double), Cond.constantDouble RX1 39 (4598175219545276416), Cond.constantDouble RX1 63 (4599301119452119040), Cond.methodLink RX6 168 yX1_meanShrinkage, Cond.instanceMethod yX1_meanShrinkage, Cond.selects RX1 yX1_meanShrinkage yX1_meanShrinkage, Cond.code yX1_meanShrinkage cX1_meanShrinkage 4 (some .double), Cond.fieldLink RX1 9 "LayerMoisture$Board" "wetness" "[D", Cond.methodLink RX1 65 yX1_shrinkage]
def wsL_stress : List Cond := .codeWith yL_stress cL_stress 5 (some .int) [(0, 9, 12, 13), (0, 9, 16, 33)] :: ((wsL_stress_r1 ++ wsL_stress_r2) ++ wsX10 ++ wsX60 ++ wsJx000600 ++ (vx_atS RX6 209 "java/lang/IllegalStateException" ["java/lang/RuntimeException", "java/lang/Exception"]).filter goodWord)
def wsL_told : List Cond := .codeWith yL_told cL_told 4 (some .int) [(0, 8, 11, 13)] :: ([.methodLink RL 57 yX6_told, .instanceMethod yX6_told, .selects RX6 yX6_told yX6_told, .initialized RX6, .code yX6_told cX6_told 2 (some .double), .fieldLink RX6 41 "LayerMoisture" "state" "LLayerMoisture$Air;", .fieldLink RX6 99 "LayerMoisture$Air" "kelvin" "D", .fieldLink RX6 102 "LayerMoisture$Air" "damp" "D", .fieldLink RX6 105 "LayerMoisture$Air" "speed" "D", .fieldLink RX6 108 "LayerMoisture$Air" "ventShare" "D", .fieldLink RX6 48 "LayerMoisture" "ledger" "LLayerMoisture$Ledger;", .fieldLink RX6 174 "LayerMoisture$Ledger" "rest" "D", .classLink RX6 177 RJx00060, .instantiable RJx00060 6, .initialized RJx00060] ++ wsX60 ++ wsX00 ++ wsX30 ++ wsJx000600)
def wsL_count : List Cond := .codeWith yL_count cL_count 4 (some .int) [(0, 9, 12, 13)] :: ([.methodLink RL 60 yX6_count, .instanceMethod yX6_count, .selects RX6 yX6_count yX6_count, .initialized RX6, .code yX6_count cX6_count 2 (some .int), .fieldLink RX6 142 "LayerMoisture" "hoursPassed" "I", .fieldLink RX6 62 "LayerMoisture" "plan" "LLayerMoisture$Plan;", .fieldLink RX6 186 "LayerMoisture$Plan" "done" "I", .classLink RX6 177 RJx00060, .instantiable RJx00060 6, .initialized RJx00060, .methodLink RX6 189 yX6_boardsThere, .instanceMethod yX6_boardsThere, .selects RX6 yX6_boardsThere yX6_boardsThere, .code yX6_boardsThere cX6_boardsThere 3 (some .int), .fieldLink RX6 31 "LayerMoisture" "boards" "[LLayerMoisture$Board;", .fieldLink RX6 201 "LayerMoisture$Board" "there" "Z"] ++ wsX60 ++ wsX40 ++ wsJx000600 ++ wsX10)
def wsL_law0_r1 : List Cond := [Cond.classLink RL 8 RX6, Cond.instantiable RX6 8, Cond.initialized RX6, Cond.classLink RL 72 RX7, Cond.instantiable RX7 31, Cond.initialized RX7, Cond.arrayClass .long, Cond.arrayClass .double, Cond.constantDouble RL 75 (4593671619917905920), Cond.methodLink RL 63 yL_cell, Cond.static yL_cell, Cond.initialized RL, Cond.code yL_cell cL_cell 2 (some .int), Cond.methodLink RL 69 yX6_init, Cond.instanceMethod yX6_init, Cond.code yX6_init cX6_init 4 none, Cond.methodLink RX6 1 objectInit, Cond.instanceMethod objectInit, Cond.code objectInit ⟨#[0xb1]⟩ 1 none, Cond.methodLink RX6 9 Lib.Math.min.name, Cond.static Lib.Math.min.name, Cond.initialized "java/lang/Math", Cond.code Lib.Math.min.name Lib.Math.min.code 2 (some .int), Cond.methodLink RX6 15 Lib.Math.max.name]
def wsL_law0_r2 : List Cond := [Cond.static Lib.Math.max.name, Cond.code Lib.Math.max.name Lib.Math.max.code 2 (some .int), Cond.fieldLink RX6 18 "LayerMoisture" "layerCount" "I", Cond.classLink RX6 22 RX2, Cond.fieldLink RX6 24 "LayerMoisture" "kinds" "[LLayerMoisture$Kind;", Cond.instantiable RX2 2, Cond.initialized RX2, Cond.classLink RX6 29 RX1, Cond.fieldLink RX6 31 "LayerMoisture" "boards" "[LLayerMoisture$Board;", Cond.instantiable RX1 7, Cond.initialized RX1, Cond.classLink RX6 38 RX0, Cond.instantiable RX0 4, Cond.initialized RX0, Cond.fieldLink RX6 41 "LayerMoisture" "state" "LLayerMoisture$Air;", Cond.classLink RX6 45 RX3, Cond.instantiable RX3 2, Cond.initialized RX3, Cond.fieldLink RX6 48 "LayerMoisture" "ledger" "LLayerMoisture$Ledger;", Cond.classLink RX6 52 RX5, Cond.instantiable RX5 3, Cond.initialized RX5, Cond.fieldLink RX6 55 "LayerMoisture" "text" "LLayerMoisture$Text;", Cond.classLink RX6 59 RX4]
def wsL_law0_r3 : List Cond := [Cond.instantiable RX4 6, Cond.initialized RX4, Cond.fieldLink RX6 62 "LayerMoisture" "plan" "LLayerMoisture$Plan;", Cond.instanceMethod yX2_init, Cond.code yX2_init cX2_init 1 none, Cond.methodLink RX2 1 objectInit, Cond.methodLink RX6 35 yX1_init, Cond.instanceMethod yX1_init, Cond.code yX1_init cX1_init 3 none, Cond.methodLink RX1 3 objectInit, Cond.fieldLink RX1 9 "LayerMoisture$Board" "wetness" "[D", Cond.fieldLink RX1 15 "LayerMoisture$Board" "kind" "LLayerMoisture$Kind;", Cond.instanceMethod yX0_init, Cond.code yX0_init cX0_init 1 none, Cond.methodLink RX0 1 objectInit, Cond.constantDouble RX0 7 (4643862126702624768), Cond.fieldLink RX0 9 "LayerMoisture$Air" "kelvin" "D", Cond.constantDouble RX0 15 (4602678819172646912), Cond.fieldLink RX0 17 "LayerMoisture$Air" "damp" "D", Cond.fieldLink RX0 20 "LayerMoisture$Air" "speed" "D", Cond.fieldLink RX0 23 "LayerMoisture$Air" "ventShare" "D", Cond.instanceMethod yX3_init, Cond.code yX3_init cX3_init 1 none, Cond.methodLink RX3 1 objectInit]
def wsL_law0_r4 : List Cond := [Cond.instanceMethod yX5_init, Cond.code yX5_init cX5_init 1 none, Cond.methodLink RX5 3 objectInit, Cond.arrayClass .char, Cond.fieldLink RX5 11 "LayerMoisture$Text" "units" "[C", Cond.instanceMethod yX4_init, Cond.code yX4_init cX4_init 1 none, Cond.methodLink RX4 3 objectInit, Cond.arrayClass .boolean, Cond.fieldLink RX4 11 "LayerMoisture$Plan" "byHours" "[Z", Cond.arrayClass .int, Cond.fieldLink RX4 15 "LayerMoisture$Plan" "times" "[I", Cond.fieldLink RX4 19 "LayerMoisture$Plan" "kelvins" "[I", Cond.fieldLink RX4 22 "LayerMoisture$Plan" "damps" "[I", Cond.methodLink RL 74 yX7_init, Cond.instanceMethod yX7_init, Cond.code yX7_init cX7_init 3 none, Cond.methodLink RX7 1 objectInit, Cond.fieldLink RX7 7 "LayerMoistureModel" "rateA" "[D", Cond.fieldLink RX7 13 "LayerMoistureModel" "rateB" "[D", Cond.constantDouble RX7 16 (4643862126702624768), Cond.fieldLink RX7 18 "LayerMoistureModel" "kelvin" "D", Cond.constantDouble RX7 22 (4602678819172646912), Cond.fieldLink RX7 24 "LayerMoistureModel" "damp" "D"]
def wsL_law0_r5 : List Cond := [Cond.fieldLink RX7 27 "LayerMoistureModel" "speed" "D", Cond.fieldLink RX7 30 "LayerMoistureModel" "there" "[Z", Cond.fieldLink RX7 34 "LayerMoistureModel" "depths" "[D", Cond.fieldLink RX7 37 "LayerMoistureModel" "kinds" "[I", Cond.fieldLink RX7 41 "LayerMoistureModel" "wets" "[D", Cond.fieldLink RX7 44 "LayerMoistureModel" "next" "[D", Cond.fieldLink RX7 47 "LayerMoistureModel" "limited" "[Z", Cond.fieldLink RX7 50 "LayerMoistureModel" "limits" "[D", Cond.fieldLink RX7 53 "LayerMoistureModel" "kept" "[I", Cond.fieldLink RX7 56 "LayerMoistureModel" "text" "[I", Cond.fieldLink RX7 59 "LayerMoistureModel" "byWet" "[Z", Cond.fieldLink RX7 62 "LayerMoistureModel" "times" "[I", Cond.fieldLink RX7 65 "LayerMoistureModel" "kelvins" "[I", Cond.fieldLink RX7 68 "LayerMoistureModel" "damps" "[I", Cond.fieldLink RX7 71 "LayerMoistureModel" "layers" "I", Cond.fieldLink RX7 75 "LayerMoistureModel" "boards" "I", Cond.methodLink RL 77 yL_board, Cond.static yL_board, Cond.codeWith yL_board cL_board 8 (some .int) [(0, 10, 13, 13), (0, 10, 17, 15)], Cond.classLink RL 13 "java/lang/ArrayIndexOutOfBoundsException", Cond.classLink RL 15 "java/lang/IllegalArgumentException", Cond.methodLink RL 7 yX6_board, Cond.instanceMethod yX6_board, Cond.selects RX6 yX6_board yX6_board]
def wsL_law0_r6 : List Cond := [Cond.code yX6_board cX6_board 9 none, Cond.constantDouble RX6 74 (4645744490609377280), Cond.constantDouble RX6 80 (4613937818241073152), Cond.methodLink RX6 66 yX6_slotOf, Cond.instanceMethod yX6_slotOf, Cond.selects RX6 yX6_slotOf yX6_slotOf, Cond.code yX6_slotOf cX6_slotOf 2 (some (.object "LayerMoisture$Board")), Cond.classLink RX6 177 RJx00060, Cond.instantiable RJx00060 6, Cond.initialized RJx00060, Cond.methodLink RX6 70 yX6_kindOf, Cond.instanceMethod yX6_kindOf, Cond.selects RX6 yX6_kindOf yX6_kindOf, Cond.code yX6_kindOf cX6_kindOf 2 (some (.object "LayerMoisture$Kind")), Cond.methodLink RX6 76 yX6_requireWithin, Cond.static yX6_requireWithin, Cond.code yX6_requireWithin cX6_requireWithin 6 none, Cond.classLink RX6 131 "java/lang/IllegalArgumentException", Cond.initialized "java/lang/IllegalArgumentException", Cond.methodLink RX6 82 yX1_lay, Cond.instanceMethod yX1_lay, Cond.selects RX1 yX1_lay yX1_lay, Cond.code yX1_lay cX1_lay 7 none, Cond.fieldLink RX1 19 "LayerMoisture$Board" "there" "Z"]
def wsL_law0_r7 : List Cond := [Cond.fieldLink RX1 23 "LayerMoisture$Board" "depth" "D", Cond.fieldLink RX1 27 "LayerMoisture$Board" "limited" "Z", Cond.fieldLink RX1 30 "LayerMoisture$Board" "keptHour" "I", Cond.methodLink RL 80 yX7_board, Cond.instanceMethod yX7_board, Cond.selects RX7 yX7_board yX7_board, Cond.code yX7_board cX7_board 8 none, Cond.constantDouble RX7 85 (4645744490609377280), Cond.constantDouble RX7 91 (4613937818241073152), Cond.fieldLink RX7 78 "LayerMoistureModel" "thrown" "I", Cond.methodLink RX7 81 yX7_noBoard, Cond.instanceMethod yX7_noBoard, Cond.selects RX7 yX7_noBoard yX7_noBoard, Cond.code yX7_noBoard cX7_noBoard 2 (some .boolean), Cond.methodLink RX7 87 yX7_isIn, Cond.static yX7_isIn, Cond.code yX7_isIn cX7_isIn 6 (some .boolean), Cond.methodLink RL 81 yX7_thrown, Cond.instanceMethod yX7_thrown, Cond.selects RX7 yX7_thrown yX7_thrown, Cond.code yX7_thrown cX7_thrown 1 (some .int), Cond.methodLink RL 85 yL_rate, Cond.static yL_rate, Cond.codeWith yL_rate cL_rate 7 (some .int) [(0, 8, 11, 13), (0, 8, 15, 15)]]
def wsL_law0_r8 : List Cond := [Cond.methodLink RL 17 yX6_rate, Cond.instanceMethod yX6_rate, Cond.selects RX6 yX6_rate yX6_rate, Cond.code yX6_rate cX6_rate 7 none, Cond.constantDouble RX6 86 (4620693217682128896), Cond.fieldLink RX6 88 "LayerMoisture$Kind" "a" "D", Cond.fieldLink RX6 92 "LayerMoisture$Kind" "b" "D", Cond.methodLink RL 88 yX7_rate, Cond.instanceMethod yX7_rate, Cond.selects RX7 yX7_rate yX7_rate, Cond.code yX7_rate cX7_rate 6 none, Cond.constantDouble RX7 93 (4620693217682128896), Cond.methodLink RL 89 yL_air, Cond.static yL_air, Cond.codeWith yL_air cL_air 8 (some .int) [(0, 8, 11, 15)], Cond.methodLink RL 21 yX6_air, Cond.instanceMethod yX6_air, Cond.selects RX6 yX6_air yX6_air, Cond.code yX6_air cX6_air 7 none, Cond.constantDouble RX6 95 (4643000109586448384), Cond.constantDouble RX6 97 (4625196817309499392), Cond.fieldLink RX6 99 "LayerMoisture$Air" "kelvin" "D", Cond.fieldLink RX6 102 "LayerMoisture$Air" "damp" "D", Cond.fieldLink RX6 105 "LayerMoisture$Air" "speed" "D"]
def wsL_law0_r9 : List Cond := [Cond.methodLink RL 92 yX7_air, Cond.instanceMethod yX7_air, Cond.selects RX7 yX7_air yX7_air, Cond.code yX7_air cX7_air 7 none, Cond.constantDouble RX7 95 (4643000109586448384), Cond.constantDouble RX7 97 (4625196817309499392), Cond.methodLink RL 93 yL_vent, Cond.static yL_vent, Cond.codeWith yL_vent cL_vent 4 (some .int) [(0, 5, 8, 15)], Cond.methodLink RL 25 yX6_vent, Cond.instanceMethod yX6_vent, Cond.selects RX6 yX6_vent yX6_vent, Cond.code yX6_vent cX6_vent 3 none, Cond.fieldLink RX6 108 "LayerMoisture$Air" "ventShare" "D", Cond.methodLink RL 96 yX7_vent, Cond.instanceMethod yX7_vent, Cond.selects RX7 yX7_vent yX7_vent, Cond.code yX7_vent cX7_vent 3 none, Cond.fieldLink RX7 99 "LayerMoistureModel" "vent" "D", Cond.methodLink RL 97 yL_soak, Cond.static yL_soak, Cond.codeWith yL_soak cL_soak 6 (some .int) [(0, 7, 10, 13), (0, 7, 14, 15), (0, 7, 18, 33)], Cond.classLink RL 33 "java/lang/IllegalStateException", Cond.methodLink RL 29 yX6_soak]
def wsL_law0_r10 : List Cond := [Cond.instanceMethod yX6_soak, Cond.selects RX6 yX6_soak yX6_soak, Cond.code yX6_soak cX6_soak 6 none, Cond.fieldLink RX6 119 "LayerMoisture$Board" "wetness" "[D", Cond.methodLink RX6 111 yX6_requireLayer, Cond.instanceMethod yX6_requireLayer, Cond.selects RX6 yX6_requireLayer yX6_requireLayer, Cond.code yX6_requireLayer cX6_requireLayer 2 none, Cond.methodLink RX6 115 yX6_requireThere, Cond.static yX6_requireThere, Cond.code yX6_requireThere cX6_requireThere 1 none, Cond.classLink RX6 205 "java/lang/IllegalStateException", Cond.initialized "java/lang/IllegalStateException", Cond.fieldLink RX6 201 "LayerMoisture$Board" "there" "Z", Cond.methodLink RL 100 yX7_soak, Cond.instanceMethod yX7_soak, Cond.selects RX7 yX7_soak yX7_soak, Cond.code yX7_soak cX7_soak 5 none, Cond.methodLink RX7 102 yX7_noLayer, Cond.instanceMethod yX7_noLayer, Cond.selects RX7 yX7_noLayer yX7_noLayer, Cond.code yX7_noLayer cX7_noLayer 3 (some .boolean), Cond.methodLink RL 101 yX6_unit, Cond.instanceMethod yX6_unit]
def wsL_law0_r11 : List Cond := [Cond.selects RX6 yX6_unit yX6_unit, Cond.code yX6_unit cX6_unit 2 (some .boolean), Cond.methodLink RX6 123 yX5_append, Cond.instanceMethod yX5_append, Cond.selects RX5 yX5_append yX5_append, Cond.code yX5_append cX5_append 2 (some .boolean), Cond.fieldLink RX5 15 "LayerMoisture$Text" "length" "I", Cond.methodLink RL 105 yX7_unit, Cond.instanceMethod yX7_unit, Cond.selects RX7 yX7_unit yX7_unit, Cond.code yX7_unit cX7_unit 2 (some .boolean), Cond.fieldLink RX7 106 "LayerMoistureModel" "typed" "I", Cond.methodLink RL 106 yX6_schedule, Cond.instanceMethod yX6_schedule, Cond.selects RX6 yX6_schedule yX6_schedule, Cond.code yX6_schedule cX6_schedule 1 (some .int), Cond.methodLink RX6 127 yX4_readFrom, Cond.instanceMethod yX4_readFrom, Cond.selects RX4 yX4_readFrom yX4_readFrom, Cond.code yX4_readFrom cX4_readFrom 4 (some .int), Cond.fieldLink RX4 29 "LayerMoisture$Text" "place" "I", Cond.fieldLink RX4 35 "LayerMoisture$Plan" "steps" "I", Cond.fieldLink RX4 38 "LayerMoisture$Plan" "done" "I", Cond.methodLink RX4 25 yX4_readSteps]
def wsL_law0_r12 : List Cond := [Cond.instanceMethod yX4_readSteps, Cond.selects RX4 yX4_readSteps yX4_readSteps, Cond.code yX4_readSteps cX4_readSteps 3 (some .int), Cond.methodLink RX4 44 yX5_pass, Cond.instanceMethod yX5_pass, Cond.selects RX5 yX5_pass yX5_pass, Cond.code yX5_pass cX5_pass 2 (some .boolean), Cond.fieldLink RX5 19 "LayerMoisture$Text" "place" "I", Cond.methodLink RX5 26 yX5_next, Cond.instanceMethod yX5_next, Cond.selects RX5 yX5_next yX5_next, Cond.code yX5_next cX5_next 1 (some .char), Cond.methodLink RX5 22 yX5_isAtEnd, Cond.instanceMethod yX5_isAtEnd, Cond.selects RX5 yX5_isAtEnd yX5_isAtEnd, Cond.code yX5_isAtEnd cX5_isAtEnd 1 (some .boolean), Cond.methodLink RX4 48 yX4_readStep, Cond.instanceMethod yX4_readStep, Cond.selects RX4 yX4_readStep yX4_readStep, Cond.code yX4_readStep cX4_readStep 3 (some .boolean), Cond.methodLink RX4 56 yX5_next, Cond.methodLink RX4 60 yX5_readNumber, Cond.instanceMethod yX5_readNumber, Cond.selects RX5 yX5_readNumber yX5_readNumber]
def wsL_law0_r13 : List Cond := [Cond.code yX5_readNumber cX5_readNumber 6 (some .int), Cond.methodLink RX5 30 yX5_isAtDigit, Cond.instanceMethod yX5_isAtDigit, Cond.selects RX5 yX5_isAtDigit yX5_isAtDigit, Cond.code yX5_isAtDigit cX5_isAtDigit 1 (some .boolean), Cond.methodLink RX4 52 yX5_isAtEnd, Cond.methodLink RX4 41 yX5_empty, Cond.instanceMethod yX5_empty, Cond.selects RX5 yX5_empty yX5_empty, Cond.code yX5_empty cX5_empty 1 none, Cond.methodLink RL 109 yX7_schedule, Cond.instanceMethod yX7_schedule, Cond.selects RX7 yX7_schedule yX7_schedule, Cond.code yX7_schedule cX7_schedule 2 (some .int), Cond.fieldLink RX7 112 "LayerMoistureModel" "at" "I", Cond.fieldLink RX7 125 "LayerMoistureModel" "steps" "I", Cond.fieldLink RX7 134 "LayerMoistureModel" "done" "I", Cond.fieldLink RX7 109 "LayerMoistureModel" "bad" "I", Cond.methodLink RX7 137 yX7_passStep, Cond.instanceMethod yX7_passStep, Cond.selects RX7 yX7_passStep yX7_passStep, Cond.code yX7_passStep cX7_passStep 2 (some .boolean), Cond.fieldLink RX7 118 "LayerMoistureModel" "number" "I", Cond.methodLink RX7 115 yX7_fail]
def wsL_law0_r14 : List Cond := [Cond.instanceMethod yX7_fail, Cond.selects RX7 yX7_fail yX7_fail, Cond.code yX7_fail cX7_fail 2 (some .boolean), Cond.methodLink RX7 128 yX7_passNumber, Cond.instanceMethod yX7_passNumber, Cond.selects RX7 yX7_passNumber yX7_passNumber, Cond.code yX7_passNumber cX7_passNumber 4 (some .boolean), Cond.methodLink RX7 121 yX7_isDigit, Cond.instanceMethod yX7_isDigit, Cond.selects RX7 yX7_isDigit yX7_isDigit, Cond.code yX7_isDigit cX7_isDigit 1 (some .boolean), Cond.methodLink RX7 131 yX7_pass, Cond.instanceMethod yX7_pass, Cond.selects RX7 yX7_pass yX7_pass, Cond.code yX7_pass cX7_pass 2 (some .boolean), Cond.methodLink RL 110 yL_run, Cond.static yL_run, Cond.codeWith yL_run cL_run 4 (some .int) [(0, 9, 12, 15)], Cond.methodLink RL 35 yX6_run, Cond.instanceMethod yX6_run, Cond.selects RX6 yX6_run yX6_run, Cond.code yX6_run cX6_run 3 (some .int), Cond.fieldLink RX6 142 "LayerMoisture" "hoursPassed" "I", Cond.methodLink RX6 138 yX6_isRefused]
def wsL_law0_r15 : List Cond := [Cond.instanceMethod yX6_isRefused, Cond.selects RX6 yX6_isRefused yX6_isRefused, Cond.code yX6_isRefused cX6_isRefused 2 (some .boolean), Cond.methodLink RX6 212 yX1_refuses, Cond.instanceMethod yX1_refuses, Cond.selects RX1 yX1_refuses yX1_refuses, Cond.code yX1_refuses cX1_refuses 3 (some .boolean), Cond.constantDouble RX1 37 (4620693217682128896), Cond.constantDouble RX1 39 (4598175219545276416), Cond.methodLink RX1 41 yX1_greatestWetness, Cond.instanceMethod yX1_greatestWetness, Cond.selects RX1 yX1_greatestWetness yX1_greatestWetness, Cond.code yX1_greatestWetness cX1_greatestWetness 4 (some .double), Cond.methodLink RX1 45 yX2_speedAt, Cond.instanceMethod yX2_speedAt, Cond.selects RX2 yX2_speedAt yX2_speedAt, Cond.code yX2_speedAt cX2_speedAt 3 (some .double), Cond.fieldLink RX2 7 "LayerMoisture$Kind" "a" "D", Cond.fieldLink RX2 13 "LayerMoisture$Kind" "b" "D", Cond.methodLink RX6 145 yX6_passHour, Cond.instanceMethod yX6_passHour, Cond.selects RX6 yX6_passHour yX6_passHour, Cond.code yX6_passHour cX6_passHour 4 none, Cond.methodLink RX6 216 yX6_followPlan]
def wsL_law0_r16 : List Cond := [Cond.instanceMethod yX6_followPlan, Cond.selects RX6 yX6_followPlan yX6_followPlan, Cond.code yX6_followPlan cX6_followPlan 1 none, Cond.fieldLink RX6 186 "LayerMoisture$Plan" "done" "I", Cond.fieldLink RX6 232 "LayerMoisture$Plan" "steps" "I", Cond.fieldLink RX6 238 "LayerMoisture$Plan" "kelvins" "[I", Cond.fieldLink RX6 242 "LayerMoisture$Plan" "damps" "[I", Cond.constantDouble RX6 245 (4636737291354636288), Cond.methodLink RX6 235 yX6_isStepDue, Cond.instanceMethod yX6_isStepDue, Cond.selects RX6 yX6_isStepDue yX6_isStepDue, Cond.code yX6_isStepDue cX6_isStepDue 2 (some .boolean), Cond.fieldLink RX6 247 "LayerMoisture$Plan" "byHours" "[Z", Cond.fieldLink RX6 251 "LayerMoisture$Plan" "times" "[I", Cond.methodLink RX6 189 yX6_boardsThere, Cond.instanceMethod yX6_boardsThere, Cond.selects RX6 yX6_boardsThere yX6_boardsThere, Cond.code yX6_boardsThere cX6_boardsThere 3 (some .int), Cond.methodLink RX6 254 yX6_isAnyWetterThan, Cond.instanceMethod yX6_isAnyWetterThan, Cond.selects RX6 yX6_isAnyWetterThan yX6_isAnyWetterThan, Cond.code yX6_isAnyWetterThan cX6_isAnyWetterThan 4 (some .boolean), Cond.methodLink RX6 160 yX1_meanWetness, Cond.instanceMethod yX1_meanWetness]
def wsL_law0_r17 : List Cond := [Cond.selects RX1 yX1_meanWetness yX1_meanWetness, Cond.code yX1_meanWetness cX1_meanWetness 4 (some .double), Cond.methodLink RX6 171 yX0_balanceNow, Cond.instanceMethod yX0_balanceNow, Cond.selects RX0 yX0_balanceNow yX0_balanceNow, Cond.code yX0_balanceNow cX0_balanceNow 1 (some .double), Cond.constantDouble RX0 26 (4600427019358961664), Cond.constantDouble RX0 28 (4643510282981736448), Cond.constantDouble RX0 30 (4643211215818981376), Cond.methodLink RX6 219 yX1_dry, Cond.instanceMethod yX1_dry, Cond.selects RX1 yX1_dry yX1_dry, Cond.code yX1_dry cX1_dry 15 (some .double), Cond.constantDouble RX1 59 (4634204016564240384), Cond.methodLink RX1 51 yX1_faceFlow, Cond.instanceMethod yX1_faceFlow, Cond.selects RX1 yX1_faceFlow yX1_faceFlow, Cond.code yX1_faceFlow cX1_faceFlow 7 (some .double), Cond.methodLink RX1 55 yX1_slopeFlow, Cond.instanceMethod yX1_slopeFlow, Cond.selects RX1 yX1_slopeFlow yX1_slopeFlow, Cond.code yX1_slopeFlow cX1_slopeFlow 5 (some .double), Cond.constantDouble RX1 61 (4611686018427387904), Cond.methodLink RX6 223 yX3_take]
def wsL_law0_r18 : List Cond := [Cond.instanceMethod yX3_take, Cond.selects RX3 yX3_take yX3_take, Cond.code yX3_take cX3_take 5 none, Cond.fieldLink RX3 7 "LayerMoisture$Ledger" "rest" "D", Cond.fieldLink RX3 13 "LayerMoisture$Ledger" "gone" "J", Cond.methodLink RX6 226 yX0_takeUp, Cond.instanceMethod yX0_takeUp, Cond.selects RX0 yX0_takeUp yX0_takeUp, Cond.code yX0_takeUp cX0_takeUp 5 none, Cond.constantDouble RX0 32 (4679240012837945344), Cond.methodLink RX6 229 yX1_watchLoad, Cond.instanceMethod yX1_watchLoad, Cond.selects RX1 yX1_watchLoad yX1_watchLoad, Cond.code yX1_watchLoad cX1_watchLoad 2 none, Cond.fieldLink RX1 34 "LayerMoisture$Board" "loadLimit" "D", Cond.methodLink RX1 71 yX1_greatestLoad, Cond.instanceMethod yX1_greatestLoad, Cond.selects RX1 yX1_greatestLoad yX1_greatestLoad, Cond.code yX1_greatestLoad cX1_greatestLoad 10 (some .double), Cond.methodLink RX1 68 yX1_meanShrinkage, Cond.instanceMethod yX1_meanShrinkage, Cond.selects RX1 yX1_meanShrinkage yX1_meanShrinkage, Cond.code yX1_meanShrinkage cX1_meanShrinkage 4 (some .double), Cond.methodLink RX1 65 yX1_shrinkage]
def wsL_law0_r19 : List Cond := [Cond.static yX1_shrinkage, Cond.code yX1_shrinkage cX1_shrinkage 2 (some .double), Cond.constantDouble RX1 63 (4599301119452119040), Cond.methodLink RL 113 yX7_run, Cond.instanceMethod yX7_run, Cond.selects RX7 yX7_run yX7_run, Cond.code yX7_run cX7_run 3 (some .int), Cond.fieldLink RX7 152 "LayerMoistureModel" "hours" "I", Cond.methodLink RX7 199 yX7_isRefused, Cond.instanceMethod yX7_isRefused, Cond.selects RX7 yX7_isRefused yX7_isRefused, Cond.code yX7_isRefused cX7_isRefused 6 (some .boolean), Cond.constantDouble RX7 150 (4598175219545276416), Cond.methodLink RX7 202 yX7_hour, Cond.instanceMethod yX7_hour, Cond.selects RX7 yX7_hour yX7_hour, Cond.code yX7_hour cX7_hour 2 none, Cond.constantDouble RX7 158 (4636737291354636288), Cond.methodLink RX7 189 yX7_hasCome, Cond.instanceMethod yX7_hasCome, Cond.selects RX7 yX7_hasCome yX7_hasCome, Cond.code yX7_hasCome cX7_hasCome 5 (some .boolean), Cond.methodLink RX7 155 yX7_meanOf, Cond.instanceMethod yX7_meanOf]
def wsL_law0_r20 : List Cond := [Cond.selects RX7 yX7_meanOf yX7_meanOf, Cond.code yX7_meanOf cX7_meanOf 2 (some .double), Cond.methodLink RX7 140 yX7_sumOf, Cond.instanceMethod yX7_sumOf, Cond.selects RX7 yX7_sumOf yX7_sumOf, Cond.code yX7_sumOf cX7_sumOf 5 (some .double), Cond.methodLink RX7 192 yX7_hourOf, Cond.instanceMethod yX7_hourOf, Cond.selects RX7 yX7_hourOf yX7_hourOf, Cond.code yX7_hourOf cX7_hourOf 14 none, Cond.constantDouble RX7 170 (4634204016564240384), Cond.fieldLink RX7 172 "LayerMoistureModel" "left" "D", Cond.fieldLink RX7 175 "LayerMoistureModel" "gone" "J", Cond.constantDouble RX7 179 (4679240012837945344), Cond.methodLink RX7 162 yX7_balanceNow, Cond.instanceMethod yX7_balanceNow, Cond.selects RX7 yX7_balanceNow yX7_balanceNow, Cond.code yX7_balanceNow cX7_balanceNow 1 (some .double), Cond.constantDouble RX7 144 (4600427019358961664), Cond.constantDouble RX7 146 (4643510282981736448), Cond.constantDouble RX7 148 (4643211215818981376), Cond.methodLink RX7 166 yX7_flow, Cond.instanceMethod yX7_flow, Cond.selects RX7 yX7_flow yX7_flow]
def wsL_law0_r21 : List Cond := [Cond.code yX7_flow cX7_flow 6 (some .double), Cond.constantDouble RX7 160 (4611686018427387904), Cond.methodLink RX7 196 yX7_keep, Cond.instanceMethod yX7_keep, Cond.selects RX7 yX7_keep yX7_keep, Cond.code yX7_keep cX7_keep 7 none, Cond.methodLink RX7 186 yX7_stressOf, Cond.instanceMethod yX7_stressOf, Cond.selects RX7 yX7_stressOf yX7_stressOf, Cond.code yX7_stressOf cX7_stressOf 6 (some .double), Cond.methodLink RX7 183 yX7_share, Cond.instanceMethod yX7_share, Cond.selects RX7 yX7_share yX7_share, Cond.code yX7_share cX7_share 5 (some .double), Cond.constantDouble RX7 181 (4599301119452119040), Cond.methodLink RL 114 yL_limit, Cond.static yL_limit, Cond.codeWith yL_limit cL_limit 5 (some .int) [(0, 6, 9, 13), (0, 6, 13, 15), (0, 6, 17, 33)], Cond.methodLink RL 39 yX6_limit, Cond.instanceMethod yX6_limit, Cond.selects RX6 yX6_limit yX6_limit, Cond.code yX6_limit cX6_limit 5 none, Cond.methodLink RX6 150 yX1_setLimit, Cond.instanceMethod yX1_setLimit]
def wsL_law0_r22 : List Cond := [Cond.selects RX1 yX1_setLimit yX1_setLimit, Cond.code yX1_setLimit cX1_setLimit 3 none, Cond.methodLink RL 117 yX7_limit, Cond.instanceMethod yX7_limit, Cond.selects RX7 yX7_limit yX7_limit, Cond.code yX7_limit cX7_limit 4 none, Cond.methodLink RL 118 yL_check, Cond.static yL_check, Cond.codeWith yL_check cL_check 4 (some .int) [(0, 9, 12, 13), (0, 9, 15, 33)], Cond.methodLink RL 43 yX6_check, Cond.instanceMethod yX6_check, Cond.selects RX6 yX6_check yX6_check, Cond.code yX6_check cX6_check 2 (some .int), Cond.fieldLink RX6 157 "LayerMoisture$Board" "keptHour" "I", Cond.methodLink RX6 154 yX6_boardThere, Cond.instanceMethod yX6_boardThere, Cond.selects RX6 yX6_boardThere yX6_boardThere, Cond.code yX6_boardThere cX6_boardThere 3 (some (.object "LayerMoisture$Board")), Cond.methodLink RL 120 yX7_check, Cond.instanceMethod yX7_check, Cond.selects RX7 yX7_check yX7_check, Cond.code yX7_check cX7_check 2 (some .int), Cond.methodLink RX7 205 yX7_isMissing, Cond.instanceMethod yX7_isMissing]
def wsL_law0_r23 : List Cond := [Cond.selects RX7 yX7_isMissing yX7_isMissing, Cond.code yX7_isMissing cX7_isMissing 3 (some .boolean), Cond.methodLink RL 121 yL_wet, Cond.static yL_wet, Cond.codeWith yL_wet cL_wet 5 (some .int) [(0, 9, 12, 13), (0, 9, 16, 33)], Cond.methodLink RL 46 yX6_wet, Cond.instanceMethod yX6_wet, Cond.selects RX6 yX6_wet yX6_wet, Cond.code yX6_wet cX6_wet 4 (some .double), Cond.methodLink RL 124 yX7_wet, Cond.instanceMethod yX7_wet, Cond.selects RX7 yX7_wet yX7_wet, Cond.code yX7_wet cX7_wet 3 (some .double), Cond.methodLink RL 125 yL_mean, Cond.static yL_mean, Cond.codeWith yL_mean cL_mean 4 (some .int) [(0, 8, 11, 13), (0, 8, 14, 33)], Cond.methodLink RL 50 yX6_mean, Cond.instanceMethod yX6_mean, Cond.selects RX6 yX6_mean yX6_mean, Cond.code yX6_mean cX6_mean 2 (some .double), Cond.methodLink RL 128 yX7_mean, Cond.instanceMethod yX7_mean, Cond.selects RX7 yX7_mean yX7_mean, Cond.code yX7_mean cX7_mean 2 (some .double)]
def wsL_law0_r24 : List Cond := [Cond.methodLink RL 129 yL_stress, Cond.static yL_stress, Cond.codeWith yL_stress cL_stress 5 (some .int) [(0, 9, 12, 13), (0, 9, 16, 33)], Cond.methodLink RL 54 yX6_stress, Cond.instanceMethod yX6_stress, Cond.selects RX6 yX6_stress yX6_stress, Cond.code yX6_stress cX6_stress 4 (some .double), Cond.methodLink RX6 164 yX1_shrinkage, Cond.methodLink RX6 168 yX1_meanShrinkage, Cond.methodLink RL 131 yX7_stress, Cond.instanceMethod yX7_stress, Cond.selects RX7 yX7_stress yX7_stress, Cond.code yX7_stress cX7_stress 3 (some .double), Cond.methodLink RL 132 yX6_balance, Cond.instanceMethod yX6_balance, Cond.selects RX6 yX6_balance yX6_balance, Cond.code yX6_balance cX6_balance 1 (some .double), Cond.methodLink RL 136 yX7_balance, Cond.instanceMethod yX7_balance, Cond.selects RX7 yX7_balance yX7_balance, Cond.code yX7_balance cX7_balance 1 (some .double), Cond.methodLink RL 137 yL_told, Cond.static yL_told, Cond.codeWith yL_told cL_told 4 (some .int) [(0, 8, 11, 13)]]
def wsL_law0_r25 : List Cond := [Cond.methodLink RL 57 yX6_told, Cond.instanceMethod yX6_told, Cond.selects RX6 yX6_told yX6_told, Cond.code yX6_told cX6_told 2 (some .double), Cond.fieldLink RX6 174 "LayerMoisture$Ledger" "rest" "D", Cond.methodLink RL 139 yX7_told, Cond.instanceMethod yX7_told, Cond.selects RX7 yX7_told yX7_told, Cond.code yX7_told cX7_told 2 (some .double), Cond.methodLink RL 140 yX6_grams, Cond.instanceMethod yX6_grams, Cond.selects RX6 yX6_grams yX6_grams, Cond.code yX6_grams cX6_grams 1 (some .long), Cond.fieldLink RX6 182 "LayerMoisture$Ledger" "gone" "J", Cond.methodLink RL 144 yX7_grams, Cond.instanceMethod yX7_grams, Cond.selects RX7 yX7_grams yX7_grams, Cond.code yX7_grams cX7_grams 1 (some .long), Cond.methodLink RL 145 yL_count, Cond.static yL_count, Cond.codeWith yL_count cL_count 4 (some .int) [(0, 9, 12, 13)], Cond.methodLink RL 60 yX6_count, Cond.instanceMethod yX6_count, Cond.selects RX6 yX6_count yX6_count]
def wsL_law0_r26 : List Cond := [Cond.code yX6_count cX6_count 2 (some .int), Cond.methodLink RL 147 yX7_count, Cond.instanceMethod yX7_count, Cond.selects RX7 yX7_count yX7_count, Cond.code yX7_count cX7_count 4 (some .int)]
def wsL_law0 : List Cond := (wsL_law0_r1 ++ (wsL_law0_r2 ++ (wsL_law0_r3 ++ (wsL_law0_r4 ++ (wsL_law0_r5 ++ (wsL_law0_r6 ++ (wsL_law0_r7 ++ (wsL_law0_r8 ++ (wsL_law0_r9 ++ (wsL_law0_r10 ++ (wsL_law0_r11 ++ (wsL_law0_r12 ++ (wsL_law0_r13 ++ (wsL_law0_r14 ++ (wsL_law0_r15 ++ (wsL_law0_r16 ++ (wsL_law0_r17 ++ (wsL_law0_r18 ++ (wsL_law0_r19 ++ (wsL_law0_r20 ++ (wsL_law0_r21 ++ (wsL_law0_r22 ++ (wsL_law0_r23 ++ (wsL_law0_r24 ++ (wsL_law0_r25 ++ wsL_law0_r26))))))))))))))))))))))))) ++ wsX60 ++ wsX70 ++ wsX20 ++ wsX10 ++ wsX00 ++ wsX30 ++ wsX50 ++ wsX40 ++ wsJx000600 ++ ([] : List Cond)
def wsL_law : List Cond := wsL_law0 ++ (vx_atS RX6 135 "java/lang/IllegalArgumentException" ["java/lang/RuntimeException", "java/lang/Exception"]).filter goodWord ++ (vx_atS RX6 209 "java/lang/IllegalStateException" ["java/lang/RuntimeException", "java/lang/Exception"]).filter goodWord
set_option maxRecDepth 20000 in
theorem ggX1_refuses_X1_greatestWetness : GoodIn wsX1_refuses wsX1_greatestWetness := goodIn_r _ [9, 10, 18, 19, 20, 21, 22, 23, 24] (by decide +kernel) (by decide +kernel)
set_option maxRecDepth 20000 in
theorem gX1_refuses_X1_greatestWetness : GoodIn wsX1_refuses (wsV RX1 41 RX1 yX1_greatestWetness wsX1_greatestWetness) := goodIn_app (goodIn_of _ (by decide +kernel)) ggX1_refuses_X1_greatestWetness
set_option maxRecDepth 20000 in
theorem ggX1_refuses_X2_speedAt : GoodIn wsX1_refuses wsX2_speedAt := goodIn_r _ [15, 16, 17, 25, 26] (by decide +kernel) (by decide +kernel)
set_option maxRecDepth 20000 in
theorem gX1_refuses_X2_speedAt : GoodIn wsX1_refuses (wsV RX1 45 RX2 yX2_speedAt wsX2_speedAt) := goodIn_app (goodIn_of _ (by decide +kernel)) ggX1_refuses_X2_speedAt
set_option maxRecDepth 20000 in
theorem ggX1_dry_X1_faceFlow : GoodIn wsX1_dry wsX1_faceFlow := goodIn_r _ [8, 9, 2, 23, 24, 25, 26, 27, 28, 29] (by decide +kernel) (by decide +kernel)
set_option maxRecDepth 20000 in
theorem gX1_dry_X1_faceFlow : GoodIn wsX1_dry (wsV RX1 51 RX1 yX1_faceFlow wsX1_faceFlow) := goodIn_app (goodIn_of _ (by decide +kernel)) ggX1_dry_X1_faceFlow
set_option maxRecDepth 20000 in
theorem ggX1_dry_X1_slopeFlow : GoodIn wsX1_dry wsX1_slopeFlow := goodIn_r _ [13, 14, 15, 2, 16, 17, 18, 19, 20, 21, 22, 23, 24, 25, 26, 27, 28, 29, 30, 31] (by decide +kernel) (by decide +kernel)
set_option maxRecDepth 20000 in
theorem gX1_dry_X1_slopeFlow : GoodIn wsX1_dry (wsV RX1 55 RX1 yX1_slopeFlow wsX1_slopeFlow) := goodIn_app (goodIn_of _ (by decide +kernel)) ggX1_dry_X1_slopeFlow
set_option maxRecDepth 20000 in
theorem ggX1_slopeFlow_X2_speedAt : GoodIn wsX1_slopeFlow wsX2_speedAt := goodIn_r _ [8, 9, 10, 18, 19] (by decide +kernel) (by decide +kernel)
set_option maxRecDepth 20000 in
theorem gX1_slopeFlow_X2_speedAt : GoodIn wsX1_slopeFlow (wsV RX1 45 RX2 yX2_speedAt wsX2_speedAt) := goodIn_app (goodIn_of _ (by decide +kernel)) ggX1_slopeFlow_X2_speedAt
set_option maxRecDepth 20000 in
theorem ggX1_meanShrinkage_X1_shrinkage : GoodIn wsX1_meanShrinkage wsX1_shrinkage := goodIn_r _ [5, 6, 7] (by decide +kernel) (by decide +kernel)
set_option maxRecDepth 20000 in
theorem gX1_meanShrinkage_X1_shrinkage : GoodIn wsX1_meanShrinkage (va_wsS RX1 65 yX1_shrinkage wsX1_shrinkage) := goodIn_app (goodIn_of _ (by decide +kernel)) ggX1_meanShrinkage_X1_shrinkage
set_option maxRecDepth 20000 in
theorem ggX1_greatestLoad_X1_meanShrinkage : GoodIn wsX1_greatestLoad wsX1_meanShrinkage := goodIn_r _ [6, 1, 7, 8, 5, 9, 10, 11, 12, 13, 14, 15, 16, 17, 18] (by decide +kernel) (by decide +kernel)
set_option maxRecDepth 20000 in
theorem gX1_greatestLoad_X1_meanShrinkage : GoodIn wsX1_greatestLoad (wsV RX1 68 RX1 yX1_meanShrinkage wsX1_meanShrinkage) := goodIn_app (goodIn_of _ (by decide +kernel)) ggX1_greatestLoad_X1_meanShrinkage
set_option maxRecDepth 20000 in
theorem ggX1_greatestLoad_X1_shrinkage : GoodIn wsX1_greatestLoad wsX1_shrinkage := goodIn_r _ [9, 10, 11] (by decide +kernel) (by decide +kernel)
set_option maxRecDepth 20000 in
theorem gX1_greatestLoad_X1_shrinkage : GoodIn wsX1_greatestLoad (va_wsS RX1 65 yX1_shrinkage wsX1_shrinkage) := goodIn_app (goodIn_of _ (by decide +kernel)) ggX1_greatestLoad_X1_shrinkage
set_option maxRecDepth 20000 in
theorem ggX1_watchLoad_X1_greatestLoad : GoodIn wsX1_watchLoad wsX1_greatestLoad := goodIn_r _ [8, 9, 10, 11, 12, 7, 13, 14, 15, 16, 17, 18, 19, 20, 21, 22, 23, 24, 25] (by decide +kernel) (by decide +kernel)
set_option maxRecDepth 20000 in
theorem gX1_watchLoad_X1_greatestLoad : GoodIn wsX1_watchLoad (wsV RX1 71 RX1 yX1_greatestLoad wsX1_greatestLoad) := goodIn_app (goodIn_of _ (by decide +kernel)) ggX1_watchLoad_X1_greatestLoad
set_option maxRecDepth 20000 in
theorem ggX4_readFrom_X4_readSteps : GoodIn wsX4_readFrom wsX4_readSteps := goodIn_r _ [8, 9, 10, 11, 12, 13, 14, 15, 16, 17, 18, 19, 20, 21, 22, 23, 24, 25, 26, 27, 7, 28, 29, 30, 31, 32, 33, 34, 35, 36, 37, 38, 39, 40, 41, 42, 47, 48, 49, 50, 51, 52, 53, 54, 55] (by decide +kernel) (by decide +kernel)
set_option maxRecDepth 20000 in
theorem gX4_readFrom_X4_readSteps : GoodIn wsX4_readFrom (wsV RX4 25 RX4 yX4_readSteps wsX4_readSteps) := goodIn_app (goodIn_of _ (by decide +kernel)) ggX4_readFrom_X4_readSteps
set_option maxRecDepth 20000 in
theorem ggX4_readFrom_X5_empty : GoodIn wsX4_readFrom wsX5_empty := goodIn_r _ [46, 24, 14, 47, 48, 49] (by decide +kernel) (by decide +kernel)
set_option maxRecDepth 20000 in
theorem gX4_readFrom_X5_empty : GoodIn wsX4_readFrom (wsV RX4 41 RX5 yX5_empty wsX5_empty) := goodIn_app (goodIn_of _ (by decide +kernel)) ggX4_readFrom_X5_empty
set_option maxRecDepth 20000 in
theorem ggX4_readSteps_X5_pass : GoodIn wsX4_readSteps wsX5_pass := goodIn_r _ [5, 6, 7, 8, 9, 4, 10, 11, 12, 13, 14, 15, 16, 36, 37, 38] (by decide +kernel) (by decide +kernel)
set_option maxRecDepth 20000 in
theorem gX4_readSteps_X5_pass : GoodIn wsX4_readSteps (wsV RX4 44 RX5 yX5_pass wsX5_pass) := goodIn_app (goodIn_of _ (by decide +kernel)) ggX4_readSteps_X5_pass
set_option maxRecDepth 20000 in
theorem ggX4_readSteps_X4_readStep : GoodIn wsX4_readSteps wsX4_readStep := goodIn_r _ [21, 22, 23, 24, 25, 26, 8, 9, 4, 10, 11, 6, 12, 13, 14, 15, 16, 1, 2, 3, 5, 7, 27, 28, 29, 30, 31, 32, 33, 34, 39, 40, 41, 42, 43, 44, 36, 37, 38] (by decide +kernel) (by decide +kernel)
set_option maxRecDepth 20000 in
theorem gX4_readSteps_X4_readStep : GoodIn wsX4_readSteps (wsV RX4 48 RX4 yX4_readStep wsX4_readStep) := goodIn_app (goodIn_of _ (by decide +kernel)) ggX4_readSteps_X4_readStep
set_option maxRecDepth 20000 in
theorem ggX4_readSteps_X5_isAtEnd : GoodIn wsX4_readSteps wsX5_isAtEnd := goodIn_r _ [15, 6, 16, 36, 37, 38] (by decide +kernel) (by decide +kernel)
set_option maxRecDepth 20000 in
theorem gX4_readSteps_X5_isAtEnd : GoodIn wsX4_readSteps (wsV RX4 52 RX5 yX5_isAtEnd wsX5_isAtEnd) := goodIn_app (goodIn_of _ (by decide +kernel)) ggX4_readSteps_X5_isAtEnd
set_option maxRecDepth 20000 in
theorem ggX4_readStep_X5_next : GoodIn wsX4_readStep wsX5_next := goodIn_r _ [9, 10, 11, 12, 13, 14, 8, 15, 16, 36, 37, 38] (by decide +kernel) (by decide +kernel)
set_option maxRecDepth 20000 in
theorem gX4_readStep_X5_next : GoodIn wsX4_readStep (wsV RX4 56 RX5 yX5_next wsX5_next) := goodIn_app (goodIn_of _ (by decide +kernel)) ggX4_readStep_X5_next
set_option maxRecDepth 20000 in
theorem ggX4_readStep_X5_pass : GoodIn wsX4_readStep wsX5_pass := goodIn_r _ [20, 11, 21, 6, 7, 8, 9, 10, 12, 13, 14, 15, 16, 36, 37, 38] (by decide +kernel) (by decide +kernel)
set_option maxRecDepth 20000 in
theorem gX4_readStep_X5_pass : GoodIn wsX4_readStep (wsV RX4 44 RX5 yX5_pass wsX5_pass) := goodIn_app (goodIn_of _ (by decide +kernel)) ggX4_readStep_X5_pass
set_option maxRecDepth 20000 in
theorem ggX4_readStep_X5_readNumber : GoodIn wsX4_readStep wsX5_readNumber := goodIn_r _ [25, 11, 26, 27, 28, 8, 29, 21, 6, 7, 9, 10, 12, 13, 14, 15, 16, 36, 37, 38] (by decide +kernel) (by decide +kernel)
set_option maxRecDepth 20000 in
theorem gX4_readStep_X5_readNumber : GoodIn wsX4_readStep (wsV RX4 60 RX5 yX5_readNumber wsX5_readNumber) := goodIn_app (goodIn_of _ (by decide +kernel)) ggX4_readStep_X5_readNumber
set_option maxRecDepth 20000 in
theorem ggX5_next_X5_isAtEnd : GoodIn wsX5_next wsX5_isAtEnd := goodIn_r _ [7, 2, 8, 9, 10, 11] (by decide +kernel) (by decide +kernel)
set_option maxRecDepth 20000 in
theorem gX5_next_X5_isAtEnd : GoodIn wsX5_next (wsV RX5 22 RX5 yX5_isAtEnd wsX5_isAtEnd) := goodIn_app (goodIn_of _ (by decide +kernel)) ggX5_next_X5_isAtEnd
set_option maxRecDepth 20000 in
theorem ggX5_isAtDigit_X5_next : GoodIn wsX5_isAtDigit wsX5_next := goodIn_r _ [5, 6, 7, 8, 9, 10, 4, 11, 12, 13, 14, 15] (by decide +kernel) (by decide +kernel)
set_option maxRecDepth 20000 in
theorem gX5_isAtDigit_X5_next : GoodIn wsX5_isAtDigit (wsV RX5 26 RX5 yX5_next wsX5_next) := goodIn_app (goodIn_of _ (by decide +kernel)) ggX5_isAtDigit_X5_next
set_option maxRecDepth 20000 in
theorem ggX5_pass_X5_next : GoodIn wsX5_pass wsX5_next := goodIn_r _ [6, 7, 1, 8, 9, 10, 5, 11, 12, 13, 14, 15] (by decide +kernel) (by decide +kernel)
set_option maxRecDepth 20000 in
theorem gX5_pass_X5_next : GoodIn wsX5_pass (wsV RX5 26 RX5 yX5_next wsX5_next) := goodIn_app (goodIn_of _ (by decide +kernel)) ggX5_pass_X5_next
set_option maxRecDepth 20000 in
theorem ggX5_readNumber_X5_isAtDigit : GoodIn wsX5_readNumber wsX5_isAtDigit := goodIn_r _ [6, 7, 8, 9, 5, 10, 11, 1, 12, 13, 14, 15, 16, 17, 18, 19] (by decide +kernel) (by decide +kernel)
set_option maxRecDepth 20000 in
theorem gX5_readNumber_X5_isAtDigit : GoodIn wsX5_readNumber (wsV RX5 30 RX5 yX5_isAtDigit wsX5_isAtDigit) := goodIn_app (goodIn_of _ (by decide +kernel)) ggX5_readNumber_X5_isAtDigit
set_option maxRecDepth 20000 in
theorem ggX5_readNumber_X5_next : GoodIn wsX5_readNumber wsX5_next := goodIn_r _ [10, 11, 1, 12, 13, 14, 5, 15, 16, 17, 18, 19] (by decide +kernel) (by decide +kernel)
set_option maxRecDepth 20000 in
theorem gX5_readNumber_X5_next : GoodIn wsX5_readNumber (wsV RX5 26 RX5 yX5_next wsX5_next) := goodIn_app (goodIn_of _ (by decide +kernel)) ggX5_readNumber_X5_next
set_option maxRecDepth 20000 in
theorem ggX6_init_X2_init : GoodIn wsX6_init wsX2_init := goodIn_r _ [37, 38, 2, 3] (by decide +kernel) (by decide +kernel)
set_option maxRecDepth 20000 in
theorem gX6_init_X2_init_n28 : GoodIn wsX6_init (wsX2_init) := ggX6_init_X2_init
set_option maxRecDepth 20000 in
theorem ggX6_init_X1_init : GoodIn wsX6_init wsX1_init := goodIn_r _ [41, 42, 2, 3, 43, 44, 45, 82, 83, 84, 85, 86, 87, 88] (by decide +kernel) (by decide +kernel)
set_option maxRecDepth 20000 in
theorem gX6_init_X1_init : GoodIn wsX6_init (wsX1_init) := ggX6_init_X1_init
set_option maxRecDepth 20000 in
theorem ggX6_init_X0_init : GoodIn wsX6_init wsX0_init := goodIn_r _ [47, 48, 2, 3, 49, 50, 51, 52, 53, 54, 89, 90, 91, 92] (by decide +kernel) (by decide +kernel)
set_option maxRecDepth 20000 in
theorem gX6_init_X0_init_n40 : GoodIn wsX6_init (wsX0_init) := ggX6_init_X0_init
set_option maxRecDepth 20000 in
theorem ggX6_init_X3_init : GoodIn wsX6_init wsX3_init := goodIn_r _ [56, 57, 2, 3] (by decide +kernel) (by decide +kernel)
set_option maxRecDepth 20000 in
theorem gX6_init_X3_init_n47 : GoodIn wsX6_init (wsX3_init) := ggX6_init_X3_init
set_option maxRecDepth 20000 in
theorem ggX6_init_X5_init : GoodIn wsX6_init wsX5_init := goodIn_r _ [59, 60, 2, 3, 61, 62, 95, 96, 97] (by decide +kernel) (by decide +kernel)
set_option maxRecDepth 20000 in
theorem gX6_init_X5_init_n54 : GoodIn wsX6_init (wsX5_init) := ggX6_init_X5_init
set_option maxRecDepth 20000 in
theorem ggX6_init_X4_init : GoodIn wsX6_init wsX4_init := goodIn_r _ [64, 65, 2, 3, 66, 67, 68, 69, 70, 71, 98, 99, 100, 101, 102, 103] (by decide +kernel) (by decide +kernel)
set_option maxRecDepth 20000 in
theorem gX6_init_X4_init_n61 : GoodIn wsX6_init (wsX4_init) := ggX6_init_X4_init
set_option maxRecDepth 20000 in
theorem ggX6_board_X6_slotOf : GoodIn wsX6_board wsX6_slotOf := goodIn_r _ [7, 8, 9, 10, 11, 33, 34, 35, 36, 37, 38, 39, 40, 41, 42, 43, 44, 45, 46] (by decide +kernel) (by decide +kernel)
set_option maxRecDepth 20000 in
theorem gX6_board_X6_slotOf : GoodIn wsX6_board (wsV RX6 66 RX6 yX6_slotOf wsX6_slotOf) := goodIn_app (goodIn_of _ (by decide +kernel)) ggX6_board_X6_slotOf
set_option maxRecDepth 20000 in
theorem ggX6_board_X6_kindOf : GoodIn wsX6_board wsX6_kindOf := goodIn_r _ [15, 16, 9, 10, 11, 33, 34, 35, 36, 37, 38, 39, 40, 41, 42, 43, 44, 45, 46] (by decide +kernel) (by decide +kernel)
set_option maxRecDepth 20000 in
theorem gX6_board_X6_kindOf : GoodIn wsX6_board (wsV RX6 70 RX6 yX6_kindOf wsX6_kindOf) := goodIn_app (goodIn_of _ (by decide +kernel)) ggX6_board_X6_kindOf
set_option maxRecDepth 20000 in
theorem ggX6_board_X6_requireWithin : GoodIn wsX6_board wsX6_requireWithin := goodIn_ca (goodIn_r _ [19, 20, 21] (by decide +kernel) (by decide +kernel)) (goodIn_sub (fun _ h => List.mem_cons_of_mem _ (List.mem_append_right _ h)) (by decide +kernel))
set_option maxRecDepth 20000 in
theorem gX6_board_X6_requireWithin : GoodIn wsX6_board (va_wsS RX6 76 yX6_requireWithin wsX6_requireWithin) := goodIn_app (goodIn_of _ (by decide +kernel)) ggX6_board_X6_requireWithin
set_option maxRecDepth 20000 in
theorem ggX6_board_X1_lay : GoodIn wsX6_board wsX1_lay := goodIn_r _ [26, 27, 28, 29, 30, 31, 32, 47, 48, 49, 50, 51, 52, 53] (by decide +kernel) (by decide +kernel)
set_option maxRecDepth 20000 in
theorem gX6_board_X1_lay : GoodIn wsX6_board (wsV RX6 82 RX1 yX1_lay wsX1_lay) := goodIn_app (goodIn_of _ (by decide +kernel)) ggX6_board_X1_lay
set_option maxRecDepth 20000 in
theorem ggX6_rate_X6_kindOf : GoodIn wsX6_rate wsX6_kindOf := goodIn_r _ [8, 9, 10, 11, 12, 20, 21, 22, 23, 24, 25, 26, 27, 28, 29, 30, 31, 32, 33] (by decide +kernel) (by decide +kernel)
set_option maxRecDepth 20000 in
theorem gX6_rate_X6_kindOf : GoodIn wsX6_rate (wsV RX6 70 RX6 yX6_kindOf wsX6_kindOf) := goodIn_app (goodIn_of _ (by decide +kernel)) ggX6_rate_X6_kindOf
set_option maxRecDepth 20000 in
theorem ggX6_rate_X6_requireWithin : GoodIn wsX6_rate wsX6_requireWithin := goodIn_ca (goodIn_r _ [15, 16, 17] (by decide +kernel) (by decide +kernel)) (goodIn_sub (fun _ h => List.mem_cons_of_mem _ (List.mem_append_right _ h)) (by decide +kernel))
set_option maxRecDepth 20000 in
theorem gX6_rate_X6_requireWithin : GoodIn wsX6_rate (va_wsS RX6 76 yX6_requireWithin wsX6_requireWithin) := goodIn_app (goodIn_of _ (by decide +kernel)) ggX6_rate_X6_requireWithin
set_option maxRecDepth 20000 in
theorem ggX6_air_X6_requireWithin : GoodIn wsX6_air wsX6_requireWithin := goodIn_ca (goodIn_r _ [11, 12, 13] (by decide +kernel) (by decide +kernel)) (goodIn_sub (fun _ h => List.mem_cons_of_mem _ (List.mem_append_right _ h)) (by decide +kernel))
set_option maxRecDepth 20000 in
theorem gX6_air_X6_requireWithin : GoodIn wsX6_air (va_wsS RX6 76 yX6_requireWithin wsX6_requireWithin) := goodIn_app (goodIn_of _ (by decide +kernel)) ggX6_air_X6_requireWithin
set_option maxRecDepth 20000 in
theorem ggX6_vent_X6_requireWithin : GoodIn wsX6_vent wsX6_requireWithin := goodIn_ca (goodIn_r _ [6, 7, 8] (by decide +kernel) (by decide +kernel)) (goodIn_sub (fun _ h => List.mem_cons_of_mem _ (List.mem_append_right _ h)) (by decide +kernel))
set_option maxRecDepth 20000 in
theorem gX6_vent_X6_requireWithin : GoodIn wsX6_vent (va_wsS RX6 76 yX6_requireWithin wsX6_requireWithin) := goodIn_app (goodIn_of _ (by decide +kernel)) ggX6_vent_X6_requireWithin
set_option maxRecDepth 20000 in
theorem ggX6_soak_X6_slotOf : GoodIn wsX6_soak wsX6_slotOf := goodIn_r _ [7, 8, 9, 10, 11, 35, 36, 37, 38, 39, 40, 41, 42, 43, 44, 45, 46, 47, 48] (by decide +kernel) (by decide +kernel)
set_option maxRecDepth 20000 in
theorem gX6_soak_X6_slotOf : GoodIn wsX6_soak (wsV RX6 66 RX6 yX6_slotOf wsX6_slotOf) := goodIn_app (goodIn_of _ (by decide +kernel)) ggX6_soak_X6_slotOf
set_option maxRecDepth 20000 in
theorem ggX6_soak_X6_requireLayer : GoodIn wsX6_soak wsX6_requireLayer := goodIn_r _ [15, 16, 9, 10, 11, 35, 36, 37, 38, 39, 40, 41, 42, 43, 44, 45, 46, 47, 48] (by decide +kernel) (by decide +kernel)
set_option maxRecDepth 20000 in
theorem gX6_soak_X6_requireLayer : GoodIn wsX6_soak (wsV RX6 111 RX6 yX6_requireLayer wsX6_requireLayer) := goodIn_app (goodIn_of _ (by decide +kernel)) ggX6_soak_X6_requireLayer
set_option maxRecDepth 20000 in
theorem ggX6_soak_X6_requireWithin : GoodIn wsX6_soak wsX6_requireWithin := goodIn_ca (goodIn_r _ [19, 20, 21] (by decide +kernel) (by decide +kernel)) (goodIn_sub (fun _ h => List.mem_cons_of_mem _ (List.mem_append_left _ (List.mem_append_right _ h))) (by decide +kernel))
set_option maxRecDepth 20000 in
theorem gX6_soak_X6_requireWithin : GoodIn wsX6_soak (va_wsS RX6 76 yX6_requireWithin wsX6_requireWithin) := goodIn_app (goodIn_of _ (by decide +kernel)) ggX6_soak_X6_requireWithin
set_option maxRecDepth 20000 in
theorem ggX6_soak_X6_requireThere : GoodIn wsX6_soak wsX6_requireThere := goodIn_ca (goodIn_r _ [24, 25, 26, 27, 28, 29, 30, 31, 32, 33, 34] (by decide +kernel) (by decide +kernel)) (goodIn_sub (fun _ h => List.mem_cons_of_mem _ (List.mem_append_right _ h)) (by decide +kernel))
set_option maxRecDepth 20000 in
theorem gX6_soak_X6_requireThere : GoodIn wsX6_soak (va_wsS RX6 115 yX6_requireThere wsX6_requireThere) := goodIn_app (goodIn_of _ (by decide +kernel)) ggX6_soak_X6_requireThere
set_option maxRecDepth 20000 in
theorem ggX6_unit_X5_append : GoodIn wsX6_unit wsX5_append := goodIn_r _ [6, 7, 8, 17, 18, 19] (by decide +kernel) (by decide +kernel)
set_option maxRecDepth 20000 in
theorem gX6_unit_X5_append : GoodIn wsX6_unit (wsV RX6 123 RX5 yX5_append wsX5_append) := goodIn_app (goodIn_of _ (by decide +kernel)) ggX6_unit_X5_append
set_option maxRecDepth 20000 in
theorem ggX6_schedule_X4_readFrom : GoodIn wsX6_schedule wsX4_readFrom := goodIn_r _ [7, 8, 9, 10, 11, 12, 13, 6, 14, 15, 16, 17, 18, 19, 20, 21, 22, 23, 24, 25, 26, 27, 28, 29, 30, 31, 32, 33, 34, 35, 36, 37, 38, 39, 40, 41, 42, 43, 44, 45, 46, 47, 48, 49, 50, 51, 52, 61, 62, 63, 64, 65, 66, 67, 68, 69] (by decide +kernel) (by decide +kernel)
set_option maxRecDepth 20000 in
theorem gX6_schedule_X4_readFrom : GoodIn wsX6_schedule (wsV RX6 127 RX4 yX4_readFrom wsX4_readFrom) := goodIn_app (goodIn_of _ (by decide +kernel)) ggX6_schedule_X4_readFrom
set_option maxRecDepth 20000 in
theorem ggX6_run_X6_isRefused : GoodIn wsX6_run wsX6_isRefused := goodIn_r _ [8, 9, 10, 11, 12, 13, 14, 15, 16, 17, 18, 19, 20, 21, 22, 23, 24, 25, 26, 27, 28, 29, 30, 31, 32, 33, 125, 126, 127, 128, 129, 130, 131, 132, 133, 134, 135, 136, 137, 138, 139, 140, 141, 142, 143, 144, 145] (by decide +kernel) (by decide +kernel)
set_option maxRecDepth 20000 in
theorem gX6_run_X6_isRefused : GoodIn wsX6_run (wsV RX6 138 RX6 yX6_isRefused wsX6_isRefused) := goodIn_app (goodIn_of _ (by decide +kernel)) ggX6_run_X6_isRefused
set_option maxRecDepth 20000 in
theorem ggX6_run_X6_passHour : GoodIn wsX6_run wsX6_passHour := goodIn_r _ [37, 9, 10, 11, 12, 38, 3, 39, 40, 41, 7, 42, 43, 44, 45, 46, 47, 48, 49, 50, 51, 52, 53, 54, 55, 56, 57, 58, 59, 60, 61, 62, 63, 64, 65, 66, 67, 16, 68, 26, 69, 70, 71, 72, 73, 74, 75, 76, 77, 78, 79, 80, 81, 82, 19, 83, 84, 85, 86, 87, 18, 88, 89, 90, 91, 21, 92, 27, 28, 29, 30, 31, 32, 33, 93, 94, 95, 96, 97, 98, 99, 100, 101, 102, 103, 104, 105, 106, 107, 108, 109, 110, 111, 112, 113, 114, 115, 116, 117, 118, 119, 120, 121, 122, 123, 20, 124, 125, 126, 127, 128, 129, 130, 131, 132, 133, 134, 135, 136, 137, 138, 139, 140, 141, 142, 143, 146, 147, 148, 149, 150, 151, 144, 145, 152, 153] (by decide +kernel) (by decide +kernel)
set_option maxRecDepth 20000 in
theorem gX6_run_X6_passHour : GoodIn wsX6_run (wsV RX6 145 RX6 yX6_passHour wsX6_passHour) := goodIn_app (goodIn_of _ (by decide +kernel)) ggX6_run_X6_passHour
set_option maxRecDepth 20000 in
theorem ggX6_limit_X6_slotOf : GoodIn wsX6_limit wsX6_slotOf := goodIn_r _ [7, 8, 9, 10, 11, 26, 27, 28, 29, 30, 31, 32, 33, 34, 35, 36, 37, 38, 39] (by decide +kernel) (by decide +kernel)
set_option maxRecDepth 20000 in
theorem gX6_limit_X6_slotOf : GoodIn wsX6_limit (wsV RX6 66 RX6 yX6_slotOf wsX6_slotOf) := goodIn_app (goodIn_of _ (by decide +kernel)) ggX6_limit_X6_slotOf
set_option maxRecDepth 20000 in
theorem ggX6_limit_X6_requireThere : GoodIn wsX6_limit wsX6_requireThere := goodIn_ca (goodIn_r _ [14, 15, 16, 17, 40, 41, 42, 43, 44, 45, 46] (by decide +kernel) (by decide +kernel)) (goodIn_sub (fun _ h => List.mem_cons_of_mem _ (List.mem_append_right _ h)) (by decide +kernel))
set_option maxRecDepth 20000 in
theorem gX6_limit_X6_requireThere : GoodIn wsX6_limit (va_wsS RX6 115 yX6_requireThere wsX6_requireThere) := goodIn_app (goodIn_of _ (by decide +kernel)) ggX6_limit_X6_requireThere
set_option maxRecDepth 20000 in
theorem ggX6_limit_X1_setLimit : GoodIn wsX6_limit wsX1_setLimit := goodIn_r _ [22, 23, 24, 25, 40, 41, 42, 43, 44, 45, 46] (by decide +kernel) (by decide +kernel)
set_option maxRecDepth 20000 in
theorem gX6_limit_X1_setLimit : GoodIn wsX6_limit (wsV RX6 150 RX1 yX1_setLimit wsX1_setLimit) := goodIn_app (goodIn_of _ (by decide +kernel)) ggX6_limit_X1_setLimit
set_option maxRecDepth 20000 in
theorem ggX6_check_X6_boardThere : GoodIn wsX6_check wsX6_boardThere := goodIn_ca (goodIn_r _ [6, 7, 8, 9, 5, 10, 11, 12, 13, 14, 15, 16, 17, 18, 19, 20, 28, 29, 30, 31, 32, 33, 34, 35, 36, 37, 38, 39, 40, 41, 21, 22, 23, 24, 25, 26, 27] (by decide +kernel) (by decide +kernel)) (goodIn_sub (fun _ h => List.mem_cons_of_mem _ (List.mem_append_right _ h)) (by decide +kernel))
set_option maxRecDepth 20000 in
theorem gX6_check_X6_boardThere : GoodIn wsX6_check (wsV RX6 154 RX6 yX6_boardThere wsX6_boardThere) := goodIn_app (goodIn_of _ (by decide +kernel)) ggX6_check_X6_boardThere
set_option maxRecDepth 20000 in
theorem ggX6_wet_X6_slotOf : GoodIn wsX6_wet wsX6_slotOf := goodIn_r _ [6, 7, 8, 9, 10, 29, 30, 31, 32, 33, 34, 35, 36, 37, 38, 39, 40, 41, 42] (by decide +kernel) (by decide +kernel)
set_option maxRecDepth 20000 in
theorem gX6_wet_X6_slotOf : GoodIn wsX6_wet (wsV RX6 66 RX6 yX6_slotOf wsX6_slotOf) := goodIn_app (goodIn_of _ (by decide +kernel)) ggX6_wet_X6_slotOf
set_option maxRecDepth 20000 in
theorem ggX6_wet_X6_requireLayer : GoodIn wsX6_wet wsX6_requireLayer := goodIn_r _ [14, 15, 8, 9, 10, 29, 30, 31, 32, 33, 34, 35, 36, 37, 38, 39, 40, 41, 42] (by decide +kernel) (by decide +kernel)
set_option maxRecDepth 20000 in
theorem gX6_wet_X6_requireLayer : GoodIn wsX6_wet (wsV RX6 111 RX6 yX6_requireLayer wsX6_requireLayer) := goodIn_app (goodIn_of _ (by decide +kernel)) ggX6_wet_X6_requireLayer
set_option maxRecDepth 20000 in
theorem ggX6_wet_X6_requireThere : GoodIn wsX6_wet wsX6_requireThere := goodIn_ca (goodIn_r _ [18, 19, 20, 21, 22, 23, 24, 25, 26, 27, 28] (by decide +kernel) (by decide +kernel)) (goodIn_sub (fun _ h => List.mem_cons_of_mem _ (List.mem_append_right _ h)) (by decide +kernel))
set_option maxRecDepth 20000 in
theorem gX6_wet_X6_requireThere : GoodIn wsX6_wet (va_wsS RX6 115 yX6_requireThere wsX6_requireThere) := goodIn_app (goodIn_of _ (by decide +kernel)) ggX6_wet_X6_requireThere
set_option maxRecDepth 20000 in
theorem ggX6_mean_X6_boardThere : GoodIn wsX6_mean wsX6_boardThere := goodIn_ca (goodIn_r _ [5, 6, 7, 8, 4, 9, 10, 11, 12, 13, 14, 15, 16, 17, 18, 19, 26, 27, 28, 29, 30, 31, 32, 33, 34, 35, 36, 37, 38, 39, 40, 41, 42, 43, 44, 45, 46] (by decide +kernel) (by decide +kernel)) (goodIn_sub (fun _ h => List.mem_cons_of_mem _ (List.mem_append_right _ h)) (by decide +kernel))
set_option maxRecDepth 20000 in
theorem gX6_mean_X6_boardThere : GoodIn wsX6_mean (wsV RX6 154 RX6 yX6_boardThere wsX6_boardThere) := goodIn_app (goodIn_of _ (by decide +kernel)) ggX6_mean_X6_boardThere
set_option maxRecDepth 20000 in
theorem ggX6_mean_X1_meanWetness : GoodIn wsX6_mean wsX1_meanWetness := goodIn_r _ [24, 25, 40, 41, 42, 43, 44, 45, 46] (by decide +kernel) (by decide +kernel)
set_option maxRecDepth 20000 in
theorem gX6_mean_X1_meanWetness : GoodIn wsX6_mean (wsV RX6 160 RX1 yX1_meanWetness wsX1_meanWetness) := goodIn_app (goodIn_of _ (by decide +kernel)) ggX6_mean_X1_meanWetness
set_option maxRecDepth 20000 in
theorem ggX6_stress_X6_slotOf : GoodIn wsX6_stress wsX6_slotOf := goodIn_r _ [6, 7, 8, 9, 10, 41, 42, 43, 44, 45, 46, 47, 48, 49, 50, 51, 52, 53, 54] (by decide +kernel) (by decide +kernel)
set_option maxRecDepth 20000 in
theorem gX6_stress_X6_slotOf : GoodIn wsX6_stress (wsV RX6 66 RX6 yX6_slotOf wsX6_slotOf) := goodIn_app (goodIn_of _ (by decide +kernel)) ggX6_stress_X6_slotOf
set_option maxRecDepth 20000 in
theorem ggX6_stress_X6_requireLayer : GoodIn wsX6_stress wsX6_requireLayer := goodIn_r _ [14, 15, 8, 9, 10, 41, 42, 43, 44, 45, 46, 47, 48, 49, 50, 51, 52, 53, 54] (by decide +kernel) (by decide +kernel)
set_option maxRecDepth 20000 in
theorem gX6_stress_X6_requireLayer : GoodIn wsX6_stress (wsV RX6 111 RX6 yX6_requireLayer wsX6_requireLayer) := goodIn_app (goodIn_of _ (by decide +kernel)) ggX6_stress_X6_requireLayer
set_option maxRecDepth 20000 in
theorem ggX6_stress_X6_requireThere : GoodIn wsX6_stress wsX6_requireThere := goodIn_ca (goodIn_r _ [18, 19, 20, 21, 34, 35, 36, 37, 38, 39, 40] (by decide +kernel) (by decide +kernel)) (goodIn_sub (fun _ h => List.mem_cons_of_mem _ (List.mem_append_right _ h)) (by decide +kernel))
set_option maxRecDepth 20000 in
theorem gX6_stress_X6_requireThere : GoodIn wsX6_stress (va_wsS RX6 115 yX6_requireThere wsX6_requireThere) := goodIn_app (goodIn_of _ (by decide +kernel)) ggX6_stress_X6_requireThere
set_option maxRecDepth 20000 in
theorem ggX6_stress_X1_shrinkage : GoodIn wsX6_stress wsX1_shrinkage := goodIn_r _ [25, 26, 27] (by decide +kernel) (by decide +kernel)
set_option maxRecDepth 20000 in
theorem gX6_stress_X1_shrinkage : GoodIn wsX6_stress (va_wsS RX6 164 yX1_shrinkage wsX1_shrinkage) := goodIn_app (goodIn_of _ (by decide +kernel)) ggX6_stress_X1_shrinkage
set_option maxRecDepth 20000 in
theorem ggX6_stress_X1_meanShrinkage : GoodIn wsX6_stress wsX1_meanShrinkage := goodIn_r _ [31, 32, 33, 23, 24, 25, 26, 27, 34, 35, 36, 37, 38, 39, 40] (by decide +kernel) (by decide +kernel)
set_option maxRecDepth 20000 in
theorem gX6_stress_X1_meanShrinkage : GoodIn wsX6_stress (wsV RX6 168 RX1 yX1_meanShrinkage wsX1_meanShrinkage) := goodIn_app (goodIn_of _ (by decide +kernel)) ggX6_stress_X1_meanShrinkage
set_option maxRecDepth 20000 in
theorem ggX6_balance_X0_balanceNow : GoodIn wsX6_balance wsX0_balanceNow := goodIn_r _ [6, 7, 8, 9, 10, 11, 20, 21, 22, 23] (by decide +kernel) (by decide +kernel)
set_option maxRecDepth 20000 in
theorem gX6_balance_X0_balanceNow : GoodIn wsX6_balance (wsV RX6 171 RX0 yX0_balanceNow wsX0_balanceNow) := goodIn_app (goodIn_of _ (by decide +kernel)) ggX6_balance_X0_balanceNow
set_option maxRecDepth 20000 in
theorem ggX6_count_X6_boardsThere : GoodIn wsX6_count wsX6_boardsThere := goodIn_r _ [11, 12, 13, 14, 15, 16, 17, 18, 19, 20, 21, 34, 35, 36, 37, 38, 39, 40] (by decide +kernel) (by decide +kernel)
set_option maxRecDepth 20000 in
theorem gX6_count_X6_boardsThere : GoodIn wsX6_count (wsV RX6 189 RX6 yX6_boardsThere wsX6_boardsThere) := goodIn_app (goodIn_of _ (by decide +kernel)) ggX6_count_X6_boardsThere
set_option maxRecDepth 20000 in
theorem ggX6_boardThere_X6_slotOf : GoodIn wsX6_boardThere wsX6_slotOf := goodIn_r _ [5, 6, 7, 8, 9, 16, 17, 18, 19, 20, 21, 22, 23, 24, 25, 26, 27, 28, 29] (by decide +kernel) (by decide +kernel)
set_option maxRecDepth 20000 in
theorem gX6_boardThere_X6_slotOf : GoodIn wsX6_boardThere (wsV RX6 66 RX6 yX6_slotOf wsX6_slotOf) := goodIn_app (goodIn_of _ (by decide +kernel)) ggX6_boardThere_X6_slotOf
set_option maxRecDepth 20000 in
theorem ggX6_boardThere_X6_requireThere : GoodIn wsX6_boardThere wsX6_requireThere := goodIn_ca (goodIn_r _ [12, 13, 14, 15, 30, 31, 32, 33, 34, 35, 36] (by decide +kernel) (by decide +kernel)) (goodIn_sub (fun _ h => List.mem_cons_of_mem _ (List.mem_append_right _ h)) (by decide +kernel))
set_option maxRecDepth 20000 in
theorem gX6_boardThere_X6_requireThere : GoodIn wsX6_boardThere (va_wsS RX6 115 yX6_requireThere wsX6_requireThere) := goodIn_app (goodIn_of _ (by decide +kernel)) ggX6_boardThere_X6_requireThere
set_option maxRecDepth 20000 in
theorem ggX6_isRefused_X1_refuses : GoodIn wsX6_isRefused wsX1_refuses := goodIn_r _ [9, 10, 11, 12, 13, 14, 15, 16, 8, 17, 18, 19, 20, 21, 22, 23, 24, 25, 34, 35, 36, 37, 38, 39, 40, 45, 46] (by decide +kernel) (by decide +kernel)
set_option maxRecDepth 20000 in
theorem gX6_isRefused_X1_refuses : GoodIn wsX6_isRefused (wsV RX6 212 RX1 yX1_refuses wsX1_refuses) := goodIn_app (goodIn_of _ (by decide +kernel)) ggX6_isRefused_X1_refuses
set_option maxRecDepth 20000 in
theorem ggX6_passHour_X6_followPlan : GoodIn wsX6_passHour wsX6_followPlan := goodIn_r _ [11, 12, 13, 14, 3, 15, 16, 17, 18, 19, 20, 21, 22, 10, 23, 24, 6, 25, 26, 27, 28, 29, 1, 2, 30, 31, 32, 33, 34, 35, 36, 37, 38, 39, 107, 108, 109, 110, 111, 112, 113, 114, 126, 127, 128, 129, 130, 131, 122, 123, 124, 125, 115, 116, 117, 118, 119, 120, 121] (by decide +kernel) (by decide +kernel)
set_option maxRecDepth 20000 in
theorem gX6_passHour_X6_followPlan : GoodIn wsX6_passHour (wsV RX6 216 RX6 yX6_followPlan wsX6_followPlan) := goodIn_app (goodIn_of _ (by decide +kernel)) ggX6_passHour_X6_followPlan
set_option maxRecDepth 20000 in
theorem ggX6_passHour_X0_balanceNow : GoodIn wsX6_passHour wsX0_balanceNow := goodIn_r _ [44, 45, 46, 47, 48, 49, 122, 123, 124, 125] (by decide +kernel) (by decide +kernel)
set_option maxRecDepth 20000 in
theorem gX6_passHour_X0_balanceNow : GoodIn wsX6_passHour (wsV RX6 171 RX0 yX0_balanceNow wsX0_balanceNow) := goodIn_app (goodIn_of _ (by decide +kernel)) ggX6_passHour_X0_balanceNow
set_option maxRecDepth 20000 in
theorem ggX6_passHour_X1_dry : GoodIn wsX6_passHour wsX1_dry := goodIn_r _ [53, 39, 54, 55, 56, 57, 58, 37, 59, 60, 61, 62, 63, 64, 65, 66, 67, 68, 69, 70, 71, 72, 73, 115, 116, 117, 118, 119, 120, 121, 132, 133] (by decide +kernel) (by decide +kernel)
set_option maxRecDepth 20000 in
theorem gX6_passHour_X1_dry : GoodIn wsX6_passHour (wsV RX6 219 RX1 yX1_dry wsX1_dry) := goodIn_app (goodIn_of _ (by decide +kernel)) ggX6_passHour_X1_dry
set_option maxRecDepth 20000 in
theorem ggX6_passHour_X3_take : GoodIn wsX6_passHour wsX3_take := goodIn_r _ [78, 79, 80, 134, 135] (by decide +kernel) (by decide +kernel)
set_option maxRecDepth 20000 in
theorem gX6_passHour_X3_take : GoodIn wsX6_passHour (wsV RX6 223 RX3 yX3_take wsX3_take) := goodIn_app (goodIn_of _ (by decide +kernel)) ggX6_passHour_X3_take
set_option maxRecDepth 20000 in
theorem ggX6_passHour_X0_takeUp : GoodIn wsX6_passHour wsX0_takeUp := goodIn_r _ [84, 46, 85, 86, 122, 123, 124, 125] (by decide +kernel) (by decide +kernel)
set_option maxRecDepth 20000 in
theorem gX6_passHour_X0_takeUp : GoodIn wsX6_passHour (wsV RX6 226 RX0 yX0_takeUp wsX0_takeUp) := goodIn_app (goodIn_of _ (by decide +kernel)) ggX6_passHour_X0_takeUp
set_option maxRecDepth 20000 in
theorem ggX6_passHour_X1_watchLoad : GoodIn wsX6_passHour wsX1_watchLoad := goodIn_r _ [90, 91, 92, 93, 94, 95, 96, 37, 97, 39, 98, 99, 100, 101, 102, 103, 104, 105, 106, 115, 116, 117, 118, 119, 120, 121] (by decide +kernel) (by decide +kernel)
set_option maxRecDepth 20000 in
theorem gX6_passHour_X1_watchLoad : GoodIn wsX6_passHour (wsV RX6 229 RX1 yX1_watchLoad wsX1_watchLoad) := goodIn_app (goodIn_of _ (by decide +kernel)) ggX6_passHour_X1_watchLoad
set_option maxRecDepth 20000 in
theorem ggX6_followPlan_X6_isStepDue : GoodIn wsX6_followPlan wsX6_isStepDue := goodIn_r _ [14, 1, 15, 16, 17, 8, 18, 19, 20, 13, 21, 22, 23, 24, 25, 26, 27, 28, 29, 30, 31, 32, 33, 34, 35, 36, 37, 38, 39, 40, 41, 42, 43, 44, 45, 46, 47, 52, 53, 54, 55, 56, 57, 58] (by decide +kernel) (by decide +kernel)
set_option maxRecDepth 20000 in
theorem gX6_followPlan_X6_isStepDue : GoodIn wsX6_followPlan (wsV RX6 235 RX6 yX6_isStepDue wsX6_isStepDue) := goodIn_app (goodIn_of _ (by decide +kernel)) ggX6_followPlan_X6_isStepDue
set_option maxRecDepth 20000 in
theorem ggX6_isStepDue_X6_boardsThere : GoodIn wsX6_isStepDue wsX6_boardsThere := goodIn_r _ [10, 11, 12, 23, 24, 25, 26, 27, 28, 29, 30, 37, 38, 39, 40, 41, 42, 43] (by decide +kernel) (by decide +kernel)
set_option maxRecDepth 20000 in
theorem gX6_isStepDue_X6_boardsThere : GoodIn wsX6_isStepDue (wsV RX6 189 RX6 yX6_boardsThere wsX6_boardsThere) := goodIn_app (goodIn_of _ (by decide +kernel)) ggX6_isStepDue_X6_boardsThere
set_option maxRecDepth 20000 in
theorem ggX6_isStepDue_X6_isAnyWetterThan : GoodIn wsX6_isStepDue wsX6_isAnyWetterThan := goodIn_r _ [16, 11, 12, 17, 18, 19, 20, 21, 22, 23, 24, 25, 26, 27, 28, 29, 30, 37, 38, 39, 40, 41, 42, 43] (by decide +kernel) (by decide +kernel)
set_option maxRecDepth 20000 in
theorem gX6_isStepDue_X6_isAnyWetterThan : GoodIn wsX6_isStepDue (wsV RX6 254 RX6 yX6_isAnyWetterThan wsX6_isAnyWetterThan) := goodIn_app (goodIn_of _ (by decide +kernel)) ggX6_isStepDue_X6_isAnyWetterThan
set_option maxRecDepth 20000 in
theorem ggX6_isAnyWetterThan_X1_meanWetness : GoodIn wsX6_isAnyWetterThan wsX1_meanWetness := goodIn_r _ [7, 8, 17, 18, 19, 20, 21, 22, 23] (by decide +kernel) (by decide +kernel)
set_option maxRecDepth 20000 in
theorem gX6_isAnyWetterThan_X1_meanWetness : GoodIn wsX6_isAnyWetterThan (wsV RX6 160 RX1 yX1_meanWetness wsX1_meanWetness) := goodIn_app (goodIn_of _ (by decide +kernel)) ggX6_isAnyWetterThan_X1_meanWetness
set_option maxRecDepth 20000 in
theorem ggX7_noLayer_X7_noBoard : GoodIn wsX7_noLayer wsX7_noBoard := goodIn_r _ [6, 7, 8, 9, 10, 11, 12, 13, 14, 15, 16, 17, 18, 19, 20, 21, 22, 23, 24, 25, 26, 27, 28, 29, 30, 31, 32, 33, 34, 35, 36, 37, 38] (by decide +kernel) (by decide +kernel)
set_option maxRecDepth 20000 in
theorem gX7_noLayer_X7_noBoard : GoodIn wsX7_noLayer (wsV RX7 81 RX7 yX7_noBoard wsX7_noBoard) := goodIn_app (goodIn_of _ (by decide +kernel)) ggX7_noLayer_X7_noBoard
set_option maxRecDepth 20000 in
theorem ggX7_board_X7_noBoard : GoodIn wsX7_board wsX7_noBoard := goodIn_r _ [15, 16, 20, 21, 22, 23, 24, 25, 26, 27, 28, 29, 30, 31, 32, 33, 34, 35, 36, 37, 38, 39, 40, 41, 42, 43, 44, 45, 46, 47, 48, 49, 50] (by decide +kernel) (by decide +kernel)
set_option maxRecDepth 20000 in
theorem gX7_board_X7_noBoard : GoodIn wsX7_board (wsV RX7 81 RX7 yX7_noBoard wsX7_noBoard) := goodIn_app (goodIn_of _ (by decide +kernel)) ggX7_board_X7_noBoard
set_option maxRecDepth 20000 in
theorem ggX7_board_X7_isIn : GoodIn wsX7_board wsX7_isIn := goodIn_r _ [19] (by decide +kernel) (by decide +kernel)
set_option maxRecDepth 20000 in
theorem gX7_board_X7_isIn : GoodIn wsX7_board (va_wsS RX7 87 yX7_isIn wsX7_isIn) := goodIn_app (goodIn_of _ (by decide +kernel)) ggX7_board_X7_isIn
set_option maxRecDepth 20000 in
theorem ggX7_rate_X7_isIn : GoodIn wsX7_rate wsX7_isIn := goodIn_r _ [8] (by decide +kernel) (by decide +kernel)
set_option maxRecDepth 20000 in
theorem gX7_rate_X7_isIn : GoodIn wsX7_rate (va_wsS RX7 87 yX7_isIn wsX7_isIn) := goodIn_app (goodIn_of _ (by decide +kernel)) ggX7_rate_X7_isIn
set_option maxRecDepth 20000 in
theorem ggX7_air_X7_isIn : GoodIn wsX7_air wsX7_isIn := goodIn_r _ [11] (by decide +kernel) (by decide +kernel)
set_option maxRecDepth 20000 in
theorem gX7_air_X7_isIn : GoodIn wsX7_air (va_wsS RX7 87 yX7_isIn wsX7_isIn) := goodIn_app (goodIn_of _ (by decide +kernel)) ggX7_air_X7_isIn
set_option maxRecDepth 20000 in
theorem ggX7_vent_X7_isIn : GoodIn wsX7_vent wsX7_isIn := goodIn_r _ [6] (by decide +kernel) (by decide +kernel)
set_option maxRecDepth 20000 in
theorem gX7_vent_X7_isIn : GoodIn wsX7_vent (va_wsS RX7 87 yX7_isIn wsX7_isIn) := goodIn_app (goodIn_of _ (by decide +kernel)) ggX7_vent_X7_isIn
set_option maxRecDepth 20000 in
theorem ggX7_soak_X7_noLayer : GoodIn wsX7_soak wsX7_noLayer := goodIn_r _ [9, 10, 11, 12, 13, 8, 14, 15, 19, 20, 21, 22, 23, 24, 25, 26, 27, 28, 29, 30, 31, 32, 33, 34, 35, 36, 37, 38, 39, 40, 41, 42, 43, 44, 45, 46, 47, 48, 49] (by decide +kernel) (by decide +kernel)
set_option maxRecDepth 20000 in
theorem gX7_soak_X7_noLayer : GoodIn wsX7_soak (wsV RX7 102 RX7 yX7_noLayer wsX7_noLayer) := goodIn_app (goodIn_of _ (by decide +kernel)) ggX7_soak_X7_noLayer
set_option maxRecDepth 20000 in
theorem ggX7_soak_X7_isIn : GoodIn wsX7_soak wsX7_isIn := goodIn_r _ [18] (by decide +kernel) (by decide +kernel)
set_option maxRecDepth 20000 in
theorem gX7_soak_X7_isIn : GoodIn wsX7_soak (va_wsS RX7 87 yX7_isIn wsX7_isIn) := goodIn_app (goodIn_of _ (by decide +kernel)) ggX7_soak_X7_isIn
set_option maxRecDepth 20000 in
theorem ggX7_pass_X7_fail : GoodIn wsX7_pass wsX7_fail := goodIn_r _ [8, 9, 10, 11, 12, 13, 14, 15, 16, 17, 18, 19, 20, 21, 22, 23, 24, 25, 26, 27, 28, 29, 30, 31, 32, 33, 34, 35, 36, 37, 38, 39, 40] (by decide +kernel) (by decide +kernel)
set_option maxRecDepth 20000 in
theorem gX7_pass_X7_fail : GoodIn wsX7_pass (wsV RX7 115 RX7 yX7_fail wsX7_fail) := goodIn_app (goodIn_of _ (by decide +kernel)) ggX7_pass_X7_fail
set_option maxRecDepth 20000 in
theorem ggX7_passNumber_X7_isDigit : GoodIn wsX7_passNumber wsX7_isDigit := goodIn_r _ [8, 1, 9, 3, 15, 16, 17, 18, 19, 20, 21, 22, 23, 24, 25, 26, 27, 28, 29, 30, 31, 32, 33, 34, 35, 36, 37, 38, 39, 40, 41, 42, 43, 44, 45] (by decide +kernel) (by decide +kernel)
set_option maxRecDepth 20000 in
theorem gX7_passNumber_X7_isDigit : GoodIn wsX7_passNumber (wsV RX7 121 RX7 yX7_isDigit wsX7_isDigit) := goodIn_app (goodIn_of _ (by decide +kernel)) ggX7_passNumber_X7_isDigit
set_option maxRecDepth 20000 in
theorem ggX7_passNumber_X7_fail : GoodIn wsX7_passNumber wsX7_fail := goodIn_r _ [13, 14, 15, 16, 17, 18, 19, 20, 21, 22, 23, 24, 25, 26, 27, 28, 29, 30, 31, 32, 33, 34, 35, 36, 37, 38, 39, 40, 41, 42, 43, 44, 45] (by decide +kernel) (by decide +kernel)
set_option maxRecDepth 20000 in
theorem gX7_passNumber_X7_fail : GoodIn wsX7_passNumber (wsV RX7 115 RX7 yX7_fail wsX7_fail) := goodIn_app (goodIn_of _ (by decide +kernel)) ggX7_passNumber_X7_fail
set_option maxRecDepth 20000 in
theorem ggX7_passStep_X7_fail : GoodIn wsX7_passStep wsX7_fail := goodIn_r _ [14, 15, 28, 29, 30, 31, 32, 33, 34, 35, 36, 37, 38, 39, 40, 41, 42, 43, 44, 45, 46, 47, 48, 49, 50, 51, 52, 53, 54, 55, 56, 57, 58] (by decide +kernel) (by decide +kernel)
set_option maxRecDepth 20000 in
theorem gX7_passStep_X7_fail : GoodIn wsX7_passStep (wsV RX7 115 RX7 yX7_fail wsX7_fail) := goodIn_app (goodIn_of _ (by decide +kernel)) ggX7_passStep_X7_fail
set_option maxRecDepth 20000 in
theorem ggX7_passStep_X7_passNumber : GoodIn wsX7_passStep wsX7_passNumber := goodIn_r _ [19, 1, 7, 3, 20, 21, 22, 13, 23, 2, 10, 11, 12, 14, 15, 28, 29, 30, 31, 32, 33, 34, 35, 36, 37, 38, 39, 40, 41, 42, 43, 44, 45, 46, 47, 48, 49, 50, 51, 52, 53, 54, 55, 56, 57, 58] (by decide +kernel) (by decide +kernel)
set_option maxRecDepth 20000 in
theorem gX7_passStep_X7_passNumber : GoodIn wsX7_passStep (wsV RX7 128 RX7 yX7_passNumber wsX7_passNumber) := goodIn_app (goodIn_of _ (by decide +kernel)) ggX7_passStep_X7_passNumber
set_option maxRecDepth 20000 in
theorem ggX7_passStep_X7_pass : GoodIn wsX7_passStep wsX7_pass := goodIn_r _ [27, 1, 2, 3, 10, 11, 12, 13, 14, 15, 28, 29, 30, 31, 32, 33, 34, 35, 36, 37, 38, 39, 40, 41, 42, 43, 44, 45, 46, 47, 48, 49, 50, 51, 52, 53, 54, 55, 56, 57, 58] (by decide +kernel) (by decide +kernel)
set_option maxRecDepth 20000 in
theorem gX7_passStep_X7_pass : GoodIn wsX7_passStep (wsV RX7 131 RX7 yX7_pass wsX7_pass) := goodIn_app (goodIn_of _ (by decide +kernel)) ggX7_passStep_X7_pass
set_option maxRecDepth 20000 in
theorem ggX7_schedule_X7_passStep : GoodIn wsX7_schedule wsX7_passStep := goodIn_r _ [12, 2, 5, 6, 13, 3, 14, 15, 16, 17, 18, 19, 20, 11, 21, 7, 22, 23, 24, 25, 26, 27, 28, 29, 30, 31, 32, 33, 34, 35, 36, 37, 38, 39, 40, 41, 42, 43, 44, 45, 46, 47, 48, 49, 50, 51, 52, 53, 54, 55, 56, 57, 58, 59, 60, 61, 62, 63, 64] (by decide +kernel) (by decide +kernel)
set_option maxRecDepth 20000 in
theorem gX7_schedule_X7_passStep : GoodIn wsX7_schedule (wsV RX7 137 RX7 yX7_passStep wsX7_passStep) := goodIn_app (goodIn_of _ (by decide +kernel)) ggX7_schedule_X7_passStep
set_option maxRecDepth 20000 in
theorem ggX7_schedule_X7_fail : GoodIn wsX7_schedule wsX7_fail := goodIn_r _ [21, 7, 34, 35, 36, 37, 38, 39, 40, 41, 42, 43, 44, 45, 46, 47, 48, 49, 50, 51, 52, 53, 54, 55, 56, 57, 58, 59, 60, 61, 62, 63, 64] (by decide +kernel) (by decide +kernel)
set_option maxRecDepth 20000 in
theorem gX7_schedule_X7_fail : GoodIn wsX7_schedule (wsV RX7 115 RX7 yX7_fail wsX7_fail) := goodIn_app (goodIn_of _ (by decide +kernel)) ggX7_schedule_X7_fail
set_option maxRecDepth 20000 in
theorem ggX7_meanOf_X7_sumOf : GoodIn wsX7_meanOf wsX7_sumOf := goodIn_r _ [6, 7, 1, 8, 9, 10, 11, 12, 13, 14, 15, 16, 17, 18, 19, 20, 21, 22, 23, 24, 25, 26, 27, 28, 29, 30, 31, 32, 33, 34, 35, 36, 37, 38] (by decide +kernel) (by decide +kernel)
set_option maxRecDepth 20000 in
theorem gX7_meanOf_X7_sumOf : GoodIn wsX7_meanOf (wsV RX7 140 RX7 yX7_sumOf wsX7_sumOf) := goodIn_app (goodIn_of _ (by decide +kernel)) ggX7_meanOf_X7_sumOf
set_option maxRecDepth 20000 in
theorem ggX7_hasCome_X7_meanOf : GoodIn wsX7_hasCome wsX7_meanOf := goodIn_r _ [12, 13, 14, 15, 16, 11, 17, 18, 19, 20, 21, 22, 23, 24, 25, 26, 27, 28, 29, 30, 31, 32, 33, 34, 35, 36, 37, 38, 39, 40, 41, 42, 43, 44, 45, 46, 47, 48, 49] (by decide +kernel) (by decide +kernel)
set_option maxRecDepth 20000 in
theorem gX7_hasCome_X7_meanOf : GoodIn wsX7_hasCome (wsV RX7 155 RX7 yX7_meanOf wsX7_meanOf) := goodIn_app (goodIn_of _ (by decide +kernel)) ggX7_hasCome_X7_meanOf
set_option maxRecDepth 20000 in
theorem ggX7_hourOf_X7_balanceNow : GoodIn wsX7_hourOf wsX7_balanceNow := goodIn_r _ [17, 18, 10, 19, 20, 21, 30, 31, 32, 33, 34, 35, 36, 37, 38, 39, 40, 41, 42, 43, 44, 45, 46, 47, 48, 49, 50, 51, 52, 53, 54, 55, 56, 57, 58, 59, 60] (by decide +kernel) (by decide +kernel)
set_option maxRecDepth 20000 in
theorem gX7_hourOf_X7_balanceNow : GoodIn wsX7_hourOf (wsV RX7 162 RX7 yX7_balanceNow wsX7_balanceNow) := goodIn_app (goodIn_of _ (by decide +kernel)) ggX7_hourOf_X7_balanceNow
set_option maxRecDepth 20000 in
theorem ggX7_hourOf_X7_flow : GoodIn wsX7_hourOf wsX7_flow := goodIn_r _ [25, 2, 26, 27, 28, 4, 29, 30, 31, 32, 33, 34, 35, 36, 37, 38, 39, 40, 41, 42, 43, 44, 45, 46, 47, 48, 49, 50, 51, 52, 53, 54, 55, 56, 57, 58, 59, 60] (by decide +kernel) (by decide +kernel)
set_option maxRecDepth 20000 in
theorem gX7_hourOf_X7_flow : GoodIn wsX7_hourOf (wsV RX7 166 RX7 yX7_flow wsX7_flow) := goodIn_app (goodIn_of _ (by decide +kernel)) ggX7_hourOf_X7_flow
set_option maxRecDepth 20000 in
theorem ggX7_stressOf_X7_share : GoodIn wsX7_stressOf wsX7_share := goodIn_r _ [6, 7, 8, 9, 10, 11, 12, 13, 14, 15, 16, 17, 18, 19, 20, 21, 22, 23, 24, 25, 26, 27, 28, 29, 30, 31, 32, 33, 34, 35, 36, 37, 38, 39, 40] (by decide +kernel) (by decide +kernel)
set_option maxRecDepth 20000 in
theorem gX7_stressOf_X7_share : GoodIn wsX7_stressOf (wsV RX7 183 RX7 yX7_share wsX7_share) := goodIn_app (goodIn_of _ (by decide +kernel)) ggX7_stressOf_X7_share
set_option maxRecDepth 20000 in
theorem ggX7_keep_X7_stressOf : GoodIn wsX7_keep wsX7_stressOf := goodIn_r _ [10, 1, 11, 12, 13, 9, 14, 15, 16, 17, 18, 19, 20, 21, 22, 23, 24, 25, 26, 27, 28, 29, 30, 31, 32, 33, 34, 35, 36, 37, 38, 39, 40, 41, 42, 43, 44, 45, 46, 47, 48] (by decide +kernel) (by decide +kernel)
set_option maxRecDepth 20000 in
theorem gX7_keep_X7_stressOf : GoodIn wsX7_keep (wsV RX7 186 RX7 yX7_stressOf wsX7_stressOf) := goodIn_app (goodIn_of _ (by decide +kernel)) ggX7_keep_X7_stressOf
set_option maxRecDepth 20000 in
theorem ggX7_hour_X7_hasCome : GoodIn wsX7_hour wsX7_hasCome := goodIn_r _ [15, 16, 1, 10, 17, 8, 9, 6, 18, 19, 20, 14, 21, 22, 23, 24, 25, 26, 27, 73, 74, 75, 76, 77, 78, 79, 80, 81, 82, 83, 84, 85, 86, 87, 88, 89, 90, 91, 92, 93, 94, 95, 96, 97, 98, 99, 100, 101, 102, 103] (by decide +kernel) (by decide +kernel)
set_option maxRecDepth 20000 in
theorem gX7_hour_X7_hasCome : GoodIn wsX7_hour (wsV RX7 189 RX7 yX7_hasCome wsX7_hasCome) := goodIn_app (goodIn_of _ (by decide +kernel)) ggX7_hour_X7_hasCome
set_option maxRecDepth 20000 in
theorem ggX7_hour_X7_hourOf : GoodIn wsX7_hour wsX7_hourOf := goodIn_r _ [31, 22, 32, 33, 27, 34, 35, 36, 37, 38, 7, 39, 40, 41, 42, 43, 14, 44, 45, 4, 46, 47, 48, 49, 50, 51, 52, 53, 54, 55, 73, 74, 75, 76, 77, 78, 79, 80, 81, 82, 83, 84, 85, 86, 87, 88, 89, 90, 91, 92, 93, 94, 95, 96, 97, 98, 99, 100, 101, 102, 103] (by decide +kernel) (by decide +kernel)
set_option maxRecDepth 20000 in
theorem gX7_hour_X7_hourOf : GoodIn wsX7_hour (wsV RX7 192 RX7 yX7_hourOf wsX7_hourOf) := goodIn_app (goodIn_of _ (by decide +kernel)) ggX7_hour_X7_hourOf
set_option maxRecDepth 20000 in
theorem ggX7_hour_X7_keep : GoodIn wsX7_hour wsX7_keep := goodIn_r _ [59, 22, 60, 61, 62, 10, 63, 64, 65, 14, 66, 67, 68, 69, 70, 27, 71, 72, 73, 74, 75, 76, 77, 78, 79, 80, 81, 82, 83, 84, 85, 86, 87, 88, 89, 90, 91, 92, 93, 94, 95, 96, 97, 98, 99, 100, 101, 102, 103] (by decide +kernel) (by decide +kernel)
set_option maxRecDepth 20000 in
theorem gX7_hour_X7_keep : GoodIn wsX7_hour (wsV RX7 196 RX7 yX7_keep wsX7_keep) := goodIn_app (goodIn_of _ (by decide +kernel)) ggX7_hour_X7_keep
set_option maxRecDepth 20000 in
theorem ggX7_run_X7_isRefused : GoodIn wsX7_run wsX7_isRefused := goodIn_r _ [7, 8, 9, 10, 11, 12, 13, 14, 15, 16, 17, 18, 82, 83, 84, 85, 86, 87, 88, 89, 90, 91, 92, 93, 94, 95, 96, 97, 98, 99, 100, 101, 102, 103, 104, 105, 106, 107, 108, 109, 110, 111, 112] (by decide +kernel) (by decide +kernel)
set_option maxRecDepth 20000 in
theorem gX7_run_X7_isRefused : GoodIn wsX7_run (wsV RX7 199 RX7 yX7_isRefused wsX7_isRefused) := goodIn_app (goodIn_of _ (by decide +kernel)) ggX7_run_X7_isRefused
set_option maxRecDepth 20000 in
theorem ggX7_run_X7_hour : GoodIn wsX7_run wsX7_hour := goodIn_r _ [22, 23, 24, 25, 26, 27, 28, 29, 8, 9, 2, 30, 31, 32, 6, 33, 34, 35, 36, 37, 38, 39, 10, 40, 41, 42, 43, 11, 44, 45, 46, 47, 12, 13, 14, 48, 49, 50, 51, 52, 53, 54, 55, 56, 57, 58, 59, 60, 61, 62, 63, 64, 16, 17, 18, 65, 66, 67, 68, 69, 70, 71, 72, 73, 74, 75, 76, 77, 78, 79, 80, 15, 81, 82, 83, 84, 85, 86, 87, 88, 89, 90, 91, 92, 93, 94, 95, 96, 97, 98, 99, 100, 101, 102, 103, 104, 105, 106, 107, 108, 109, 110, 111, 112] (by decide +kernel) (by decide +kernel)
set_option maxRecDepth 20000 in
theorem gX7_run_X7_hour : GoodIn wsX7_run (wsV RX7 202 RX7 yX7_hour wsX7_hour) := goodIn_app (goodIn_of _ (by decide +kernel)) ggX7_run_X7_hour
set_option maxRecDepth 20000 in
theorem ggX7_limit_X7_noBoard : GoodIn wsX7_limit wsX7_noBoard := goodIn_r _ [10, 11, 12, 13, 14, 15, 16, 17, 18, 19, 20, 21, 22, 23, 24, 25, 26, 27, 28, 29, 30, 31, 32, 33, 34, 35, 36, 37, 38, 39, 40, 41, 42] (by decide +kernel) (by decide +kernel)
set_option maxRecDepth 20000 in
theorem gX7_limit_X7_noBoard : GoodIn wsX7_limit (wsV RX7 81 RX7 yX7_noBoard wsX7_noBoard) := goodIn_app (goodIn_of _ (by decide +kernel)) ggX7_limit_X7_noBoard
set_option maxRecDepth 20000 in
theorem ggX7_check_X7_noBoard : GoodIn wsX7_check wsX7_noBoard := goodIn_r _ [6, 7, 14, 15, 16, 17, 18, 19, 20, 21, 22, 23, 24, 25, 26, 27, 28, 29, 30, 31, 32, 33, 34, 35, 36, 37, 38, 39, 40, 41, 42, 43, 44] (by decide +kernel) (by decide +kernel)
set_option maxRecDepth 20000 in
theorem gX7_check_X7_noBoard : GoodIn wsX7_check (wsV RX7 81 RX7 yX7_noBoard wsX7_noBoard) := goodIn_app (goodIn_of _ (by decide +kernel)) ggX7_check_X7_noBoard
set_option maxRecDepth 20000 in
theorem ggX7_check_X7_isMissing : GoodIn wsX7_check wsX7_isMissing := goodIn_r _ [11, 12, 13, 14, 15, 16, 17, 18, 19, 20, 21, 22, 23, 24, 25, 26, 27, 28, 29, 30, 31, 32, 33, 34, 35, 36, 37, 38, 39, 40, 41, 42, 43, 44] (by decide +kernel) (by decide +kernel)
set_option maxRecDepth 20000 in
theorem gX7_check_X7_isMissing : GoodIn wsX7_check (wsV RX7 205 RX7 yX7_isMissing wsX7_isMissing) := goodIn_app (goodIn_of _ (by decide +kernel)) ggX7_check_X7_isMissing
set_option maxRecDepth 20000 in
theorem ggX7_wet_X7_noLayer : GoodIn wsX7_wet wsX7_noLayer := goodIn_r _ [6, 7, 8, 9, 10, 5, 11, 12, 19, 20, 21, 22, 23, 24, 25, 26, 27, 28, 29, 30, 31, 32, 33, 34, 35, 36, 37, 38, 39, 40, 41, 42, 43, 44, 45, 46, 47, 48, 49] (by decide +kernel) (by decide +kernel)
set_option maxRecDepth 20000 in
theorem gX7_wet_X7_noLayer : GoodIn wsX7_wet (wsV RX7 102 RX7 yX7_noLayer wsX7_noLayer) := goodIn_app (goodIn_of _ (by decide +kernel)) ggX7_wet_X7_noLayer
set_option maxRecDepth 20000 in
theorem ggX7_wet_X7_isMissing : GoodIn wsX7_wet wsX7_isMissing := goodIn_r _ [16, 17, 18, 19, 20, 21, 22, 23, 24, 25, 26, 27, 28, 29, 30, 31, 32, 33, 34, 35, 36, 37, 38, 39, 40, 41, 42, 43, 44, 45, 46, 47, 48, 49] (by decide +kernel) (by decide +kernel)
set_option maxRecDepth 20000 in
theorem gX7_wet_X7_isMissing : GoodIn wsX7_wet (wsV RX7 205 RX7 yX7_isMissing wsX7_isMissing) := goodIn_app (goodIn_of _ (by decide +kernel)) ggX7_wet_X7_isMissing
set_option maxRecDepth 20000 in
theorem ggX7_mean_X7_noBoard : GoodIn wsX7_mean wsX7_noBoard := goodIn_r _ [5, 6, 23, 24, 25, 26, 27, 28, 29, 30, 31, 32, 33, 34, 35, 36, 37, 38, 39, 40, 41, 42, 43, 44, 45, 46, 47, 48, 49, 50, 51, 52, 53] (by decide +kernel) (by decide +kernel)
set_option maxRecDepth 20000 in
theorem gX7_mean_X7_noBoard : GoodIn wsX7_mean (wsV RX7 81 RX7 yX7_noBoard wsX7_noBoard) := goodIn_app (goodIn_of _ (by decide +kernel)) ggX7_mean_X7_noBoard
set_option maxRecDepth 20000 in
theorem ggX7_mean_X7_isMissing : GoodIn wsX7_mean wsX7_isMissing := goodIn_r _ [10, 11, 12, 23, 24, 25, 26, 27, 28, 29, 30, 31, 32, 33, 34, 35, 36, 37, 38, 39, 40, 41, 42, 43, 44, 45, 46, 47, 48, 49, 50, 51, 52, 53] (by decide +kernel) (by decide +kernel)
set_option maxRecDepth 20000 in
theorem gX7_mean_X7_isMissing : GoodIn wsX7_mean (wsV RX7 205 RX7 yX7_isMissing wsX7_isMissing) := goodIn_app (goodIn_of _ (by decide +kernel)) ggX7_mean_X7_isMissing
set_option maxRecDepth 20000 in
theorem ggX7_mean_X7_meanOf : GoodIn wsX7_mean wsX7_meanOf := goodIn_r _ [16, 17, 18, 19, 20, 4, 21, 22, 23, 24, 25, 26, 27, 28, 29, 30, 31, 32, 33, 34, 35, 36, 37, 38, 39, 40, 41, 42, 43, 44, 45, 46, 47, 48, 49, 50, 51, 52, 53] (by decide +kernel) (by decide +kernel)
set_option maxRecDepth 20000 in
theorem gX7_mean_X7_meanOf : GoodIn wsX7_mean (wsV RX7 155 RX7 yX7_meanOf wsX7_meanOf) := goodIn_app (goodIn_of _ (by decide +kernel)) ggX7_mean_X7_meanOf
set_option maxRecDepth 20000 in
theorem ggX7_stress_X7_noLayer : GoodIn wsX7_stress wsX7_noLayer := goodIn_r _ [5, 6, 7, 8, 9, 4, 10, 11, 29, 30, 31, 32, 33, 34, 35, 36, 37, 38, 39, 40, 41, 42, 43, 44, 45, 46, 47, 48, 49, 50, 51, 52, 53, 54, 55, 56, 57, 58, 59] (by decide +kernel) (by decide +kernel)
set_option maxRecDepth 20000 in
theorem gX7_stress_X7_noLayer : GoodIn wsX7_stress (wsV RX7 102 RX7 yX7_noLayer wsX7_noLayer) := goodIn_app (goodIn_of _ (by decide +kernel)) ggX7_stress_X7_noLayer
set_option maxRecDepth 20000 in
theorem ggX7_stress_X7_isMissing : GoodIn wsX7_stress wsX7_isMissing := goodIn_r _ [15, 16, 17, 29, 30, 31, 32, 33, 34, 35, 36, 37, 38, 39, 40, 41, 42, 43, 44, 45, 46, 47, 48, 49, 50, 51, 52, 53, 54, 55, 56, 57, 58, 59] (by decide +kernel) (by decide +kernel)
set_option maxRecDepth 20000 in
theorem gX7_stress_X7_isMissing : GoodIn wsX7_stress (wsV RX7 205 RX7 yX7_isMissing wsX7_isMissing) := goodIn_app (goodIn_of _ (by decide +kernel)) ggX7_stress_X7_isMissing
set_option maxRecDepth 20000 in
theorem ggX7_stress_X7_stressOf : GoodIn wsX7_stress wsX7_stressOf := goodIn_r _ [21, 6, 22, 23, 24, 4, 25, 26, 27, 28, 29, 30, 31, 32, 33, 34, 35, 36, 37, 38, 39, 40, 41, 42, 43, 44, 45, 46, 47, 48, 49, 50, 51, 52, 53, 54, 55, 56, 57, 58, 59] (by decide +kernel) (by decide +kernel)
set_option maxRecDepth 20000 in
theorem gX7_stress_X7_stressOf : GoodIn wsX7_stress (wsV RX7 186 RX7 yX7_stressOf wsX7_stressOf) := goodIn_app (goodIn_of _ (by decide +kernel)) ggX7_stress_X7_stressOf
set_option maxRecDepth 20000 in
theorem ggX7_balance_X7_balanceNow : GoodIn wsX7_balance wsX7_balanceNow := goodIn_r _ [6, 7, 8, 9, 10, 11, 12, 13, 14, 15, 16, 17, 18, 19, 20, 21, 22, 23, 24, 25, 26, 27, 28, 29, 30, 31, 32, 33, 34, 35, 36, 37, 38, 39, 40, 41, 42] (by decide +kernel) (by decide +kernel)
set_option maxRecDepth 20000 in
theorem gX7_balance_X7_balanceNow : GoodIn wsX7_balance (wsV RX7 162 RX7 yX7_balanceNow wsX7_balanceNow) := goodIn_app (goodIn_of _ (by decide +kernel)) ggX7_balance_X7_balanceNow
set_option maxRecDepth 20000 in
theorem ggL_board_X6_board : GoodIn wsL_board wsX6_board := goodIn_ca (goodIn_r _ [7, 8, 9, 10, 11, 12, 6, 13, 14, 15, 16, 17, 18, 19, 20, 21, 22, 23, 24, 25, 26, 27, 28, 29, 30, 31, 32, 33, 34, 35, 36, 37, 38, 39, 40, 41, 42, 43, 44, 45, 46, 47, 48, 49, 50, 51, 52, 53, 54, 55, 56, 57, 58, 59] (by decide +kernel) (by decide +kernel)) (goodIn_sub (fun _ h => List.mem_cons_of_mem _ (List.mem_append_right _ h)) (by decide +kernel))
set_option maxRecDepth 20000 in
theorem gL_board_X6_board : GoodIn wsL_board (wsV RL 7 RX6 yX6_board wsX6_board) := goodIn_app (goodIn_of _ (by decide +kernel)) ggL_board_X6_board
set_option maxRecDepth 20000 in
theorem ggL_rate_X6_rate : GoodIn wsL_rate wsX6_rate := goodIn_ca (goodIn_r _ [7, 8, 9, 10, 11, 12, 13, 6, 14, 15, 16, 17, 18, 19, 20, 21, 22, 23, 24, 25, 26, 27, 28, 29, 30, 31, 32, 33, 34, 35, 36, 37, 38, 39] (by decide +kernel) (by decide +kernel)) (goodIn_sub (fun _ h => List.mem_cons_of_mem _ (List.mem_append_right _ h)) (by decide +kernel))
set_option maxRecDepth 20000 in
theorem gL_rate_X6_rate : GoodIn wsL_rate (wsV RL 17 RX6 yX6_rate wsX6_rate) := goodIn_app (goodIn_of _ (by decide +kernel)) ggL_rate_X6_rate
set_option maxRecDepth 20000 in
theorem ggL_air_X6_air : GoodIn wsL_air wsX6_air := goodIn_ca (goodIn_r _ [6, 7, 8, 9, 10, 11, 12, 13, 14, 15, 5, 16, 17, 18, 19, 20, 21, 22, 23, 24, 25, 26, 27, 28, 29, 30] (by decide +kernel) (by decide +kernel)) (goodIn_sub (fun _ h => List.mem_cons_of_mem _ (List.mem_append_right _ h)) (by decide +kernel))
set_option maxRecDepth 20000 in
theorem gL_air_X6_air : GoodIn wsL_air (wsV RL 21 RX6 yX6_air wsX6_air) := goodIn_app (goodIn_of _ (by decide +kernel)) ggL_air_X6_air
set_option maxRecDepth 20000 in
theorem ggL_vent_X6_vent : GoodIn wsL_vent wsX6_vent := goodIn_ca (goodIn_r _ [6, 7, 8, 9, 10, 5, 11, 12, 13, 14, 15, 16, 17, 18, 19, 20, 21, 22, 23, 24, 25] (by decide +kernel) (by decide +kernel)) (goodIn_sub (fun _ h => List.mem_cons_of_mem _ (List.mem_append_right _ h)) (by decide +kernel))
set_option maxRecDepth 20000 in
theorem gL_vent_X6_vent : GoodIn wsL_vent (wsV RL 25 RX6 yX6_vent wsX6_vent) := goodIn_app (goodIn_of _ (by decide +kernel)) ggL_vent_X6_vent
set_option maxRecDepth 20000 in
theorem ggL_soak_X6_soak : GoodIn wsL_soak wsX6_soak := goodIn_ca (goodIn_ca (goodIn_r _ [8, 9, 10, 11, 12, 13, 7, 14, 15, 16, 17, 18, 19, 20, 21, 22, 23, 24, 25, 26, 27, 28, 29, 30, 31, 32, 33, 34, 35, 36, 37, 38, 39, 40, 41, 42, 43, 44, 45, 46, 47, 48, 49, 50, 51, 52, 53, 54, 55] (by decide +kernel) (by decide +kernel)) (goodIn_sub (fun _ h => List.mem_cons_of_mem _ (List.mem_append_left _ (List.mem_append_right _ h))) (by decide +kernel))) (goodIn_sub (fun _ h => List.mem_cons_of_mem _ (List.mem_append_right _ h)) (by decide +kernel))
set_option maxRecDepth 20000 in
theorem gL_soak_X6_soak : GoodIn wsL_soak (wsV RL 29 RX6 yX6_soak wsX6_soak) := goodIn_app (goodIn_of _ (by decide +kernel)) ggL_soak_X6_soak
set_option maxRecDepth 20000 in
theorem ggL_run_X6_run : GoodIn wsL_run wsX6_run := goodIn_ca (goodIn_r _ [6, 7, 8, 9, 10, 11, 12, 5, 13, 14, 15, 16, 17, 18, 19, 20, 21, 22, 23, 24, 25, 26, 27, 28, 29, 30, 31, 32, 33, 34, 35, 36, 37, 38, 39, 40, 41, 42, 43, 44, 45, 46, 47, 48, 49, 50, 51, 52, 53, 54, 55, 56, 57, 58, 59, 60, 61, 62, 63, 64, 65, 66, 67, 68, 69, 70, 71, 72, 73, 74, 75, 76, 77, 78, 79, 80, 81, 82, 83, 84, 85, 86, 87, 88, 89, 90, 91, 92, 93, 94, 95, 96, 97, 98, 99, 100, 101, 102, 103, 104, 105, 106, 107, 108, 109, 110, 111, 112, 113, 114, 115, 116, 117, 118, 119, 120, 121, 122, 123, 124, 125, 126, 127, 128, 129, 130, 131, 132, 133, 134, 135, 136, 137, 138, 139, 140, 141, 142, 143, 144, 145, 146, 147, 148, 149, 150, 151, 152, 153, 154, 155, 156, 157, 158] (by decide +kernel) (by decide +kernel)) (goodIn_sub (fun _ h => List.mem_cons_of_mem _ (List.mem_append_right _ h)) (by decide +kernel))
set_option maxRecDepth 20000 in
theorem gL_run_X6_run : GoodIn wsL_run (wsV RL 35 RX6 yX6_run wsX6_run) := goodIn_app (goodIn_of _ (by decide +kernel)) ggL_run_X6_run
set_option maxRecDepth 20000 in
theorem ggL_limit_X6_limit : GoodIn wsL_limit wsX6_limit := goodIn_ca (goodIn_ca (goodIn_r _ [8, 9, 10, 11, 12, 13, 7, 14, 15, 16, 17, 18, 19, 20, 21, 22, 23, 24, 25, 26, 27, 28, 29, 30, 31, 32, 33, 34, 35, 36, 37, 38, 39, 40, 41, 42, 43, 44, 45, 46, 47, 48, 49, 50, 51, 52, 53] (by decide +kernel) (by decide +kernel)) (goodIn_sub (fun _ h => List.mem_cons_of_mem _ (List.mem_append_left _ (List.mem_append_right _ h))) (by decide +kernel))) (goodIn_sub (fun _ h => List.mem_cons_of_mem _ (List.mem_append_right _ h)) (by decide +kernel))
set_option maxRecDepth 20000 in
theorem gL_limit_X6_limit : GoodIn wsL_limit (wsV RL 39 RX6 yX6_limit wsX6_limit) := goodIn_app (goodIn_of _ (by decide +kernel)) ggL_limit_X6_limit
set_option maxRecDepth 20000 in
theorem ggL_check_X6_check : GoodIn wsL_check wsX6_check := goodIn_ca (goodIn_r _ [7, 8, 9, 10, 11, 6, 12, 13, 14, 15, 16, 17, 18, 19, 20, 21, 22, 23, 24, 25, 26, 27, 28, 29, 30, 31, 32, 33, 34, 35, 36, 37, 38, 39, 40, 41, 42, 43, 44, 45, 46, 47] (by decide +kernel) (by decide +kernel)) (goodIn_sub (fun _ h => List.mem_cons_of_mem _ (List.mem_append_right _ h)) (by decide +kernel))
set_option maxRecDepth 20000 in
theorem gL_check_X6_check : GoodIn wsL_check (wsV RL 43 RX6 yX6_check wsX6_check) := goodIn_app (goodIn_of _ (by decide +kernel)) ggL_check_X6_check
set_option maxRecDepth 20000 in
theorem ggL_wet_X6_wet : GoodIn wsL_wet wsX6_wet := goodIn_ca (goodIn_r _ [7, 8, 9, 10, 11, 6, 12, 13, 14, 15, 16, 17, 18, 19, 20, 21, 22, 23, 24, 25, 26, 27, 28, 29, 30, 31, 32, 33, 34, 35, 36, 37, 38, 39, 40, 41, 42, 43, 44, 45, 46, 47, 48] (by decide +kernel) (by decide +kernel)) (goodIn_sub (fun _ h => List.mem_cons_of_mem _ (List.mem_append_right _ h)) (by decide +kernel))
set_option maxRecDepth 20000 in
theorem gL_wet_X6_wet : GoodIn wsL_wet (wsV RL 46 RX6 yX6_wet wsX6_wet) := goodIn_app (goodIn_of _ (by decide +kernel)) ggL_wet_X6_wet
set_option maxRecDepth 20000 in
theorem ggL_mean_X6_mean : GoodIn wsL_mean wsX6_mean := goodIn_ca (goodIn_r _ [7, 8, 9, 10, 6, 11, 12, 13, 14, 15, 16, 17, 18, 19, 20, 21, 22, 23, 24, 25, 26, 27, 28, 29, 30, 31, 32, 33, 34, 35, 36, 37, 38, 39, 40, 41, 42, 43, 44, 45, 46, 47, 48, 49, 50, 51, 52] (by decide +kernel) (by decide +kernel)) (goodIn_sub (fun _ h => List.mem_cons_of_mem _ (List.mem_append_right _ h)) (by decide +kernel))
set_option maxRecDepth 20000 in
theorem gL_mean_X6_mean : GoodIn wsL_mean (wsV RL 50 RX6 yX6_mean wsX6_mean) := goodIn_app (goodIn_of _ (by decide +kernel)) ggL_mean_X6_mean
set_option maxRecDepth 20000 in
theorem ggL_stress_X6_stress : GoodIn wsL_stress wsX6_stress := goodIn_ca (goodIn_r _ [7, 8, 9, 10, 11, 6, 12, 13, 14, 15, 16, 17, 18, 19, 20, 21, 22, 23, 24, 25, 26, 27, 28, 29, 30, 31, 32, 33, 34, 35, 36, 37, 38, 39, 40, 41, 42, 43, 44, 45, 46, 47, 48, 49, 50, 51, 52, 53, 54, 55, 56, 57, 58, 59, 60] (by decide +kernel) (by decide +kernel)) (goodIn_sub (fun _ h => List.mem_cons_of_mem _ (List.mem_append_right _ h)) (by decide +kernel))
set_option maxRecDepth 20000 in
theorem gL_stress_X6_stress : GoodIn wsL_stress (wsV RL 54 RX6 yX6_stress wsX6_stress) := goodIn_app (goodIn_of _ (by decide +kernel)) ggL_stress_X6_stress
set_option maxRecDepth 20000 in
theorem ggL_told_X6_told : GoodIn wsL_told wsX6_told := goodIn_r _ [5, 6, 7, 8, 9, 10, 11, 12, 13, 14, 15, 16, 17, 18, 19, 20, 21, 22, 23, 24, 25, 26, 27, 28, 29, 30, 31, 32, 33, 34, 35] (by decide +kernel) (by decide +kernel)
set_option maxRecDepth 20000 in
theorem gL_told_X6_told : GoodIn wsL_told (wsV RL 57 RX6 yX6_told wsX6_told) := goodIn_app (goodIn_of _ (by decide +kernel)) ggL_told_X6_told
set_option maxRecDepth 20000 in
theorem ggL_count_X6_count : GoodIn wsL_count wsX6_count := goodIn_r _ [5, 6, 7, 8, 9, 10, 11, 12, 13, 14, 4, 15, 16, 17, 18, 19, 20, 21, 22, 23, 24, 25, 26, 27, 28, 29, 30, 31, 32, 33, 34, 35, 36, 37, 38, 39, 40, 41, 42, 43, 44] (by decide +kernel) (by decide +kernel)
set_option maxRecDepth 20000 in
theorem gL_count_X6_count : GoodIn wsL_count (wsV RL 60 RX6 yX6_count wsX6_count) := goodIn_app (goodIn_of _ (by decide +kernel)) ggL_count_X6_count
abbrev vwCl : List vw_C := [(RJx00060, TJx00060, 6), (RX0, TX0, 4), (RX1, TX1, 7), (RX2, TX2, 2), (RX3, TX3, 2), (RX4, TX4, 6), (RX5, TX5, 3), (RX6, TX6, 8), (RX7, TX7, 31)]
end
section
theorem dX0_init_0 : decode cX0_init 0 = .ok (.aload_n 0, 1) := by decide +kernel
theorem dX0_init_1 : decode cX0_init 1 = .ok (.invokespecial 1, 3) := by decide +kernel
theorem dX0_init_4 : decode cX0_init 4 = .ok (.aload_n 0, 1) := by decide +kernel
theorem dX0_init_5 : decode cX0_init 5 = .ok (.ldc2_w 7, 3) := by decide +kernel
theorem dX0_init_8 : decode cX0_init 8 = .ok (.putfield 9, 3) := by decide +kernel
theorem dX0_init_11 : decode cX0_init 11 = .ok (.aload_n 0, 1) := by decide +kernel
theorem dX0_init_12 : decode cX0_init 12 = .ok (.ldc2_w 15, 3) := by decide +kernel
theorem dX0_init_15 : decode cX0_init 15 = .ok (.putfield 17, 3) := by decide +kernel
theorem dX0_init_18 : decode cX0_init 18 = .ok (.aload_n 0, 1) := by decide +kernel
theorem dX0_init_19 : decode cX0_init 19 = .ok (.dconst 1, 1) := by decide +kernel
theorem dX0_init_20 : decode cX0_init 20 = .ok (.putfield 20, 3) := by decide +kernel
theorem dX0_init_23 : decode cX0_init 23 = .ok (.aload_n 0, 1) := by decide +kernel
theorem dX0_init_24 : decode cX0_init 24 = .ok (.dconst 0, 1) := by decide +kernel
theorem dX0_init_25 : decode cX0_init 25 = .ok (.putfield 23, 3) := by decide +kernel
theorem dX0_init_28 : decode cX0_init 28 = .ok (.return_, 1) := by decide +kernel
theorem dX0_balanceNow_0 : decode cX0_balanceNow 0 = .ok (.ldc2_w 26, 3) := by decide +kernel
theorem dX0_balanceNow_3 : decode cX0_balanceNow 3 = .ok (.aload_n 0, 1) := by decide +kernel
theorem dX0_balanceNow_4 : decode cX0_balanceNow 4 = .ok (.getfield 17, 3) := by decide +kernel
theorem dX0_balanceNow_7 : decode cX0_balanceNow 7 = .ok (.dmul, 1) := by decide +kernel
theorem dX0_balanceNow_8 : decode cX0_balanceNow 8 = .ok (.dconst 1, 1) := by decide +kernel
theorem dX0_balanceNow_9 : decode cX0_balanceNow 9 = .ok (.aload_n 0, 1) := by decide +kernel
theorem dX0_balanceNow_10 : decode cX0_balanceNow 10 = .ok (.getfield 9, 3) := by decide +kernel
theorem dX0_balanceNow_13 : decode cX0_balanceNow 13 = .ok (.ldc2_w 28, 3) := by decide +kernel
theorem dX0_balanceNow_16 : decode cX0_balanceNow 16 = .ok (.dsub, 1) := by decide +kernel
theorem dX0_balanceNow_17 : decode cX0_balanceNow 17 = .ok (.ldc2_w 30, 3) := by decide +kernel
theorem dX0_balanceNow_20 : decode cX0_balanceNow 20 = .ok (.ddiv, 1) := by decide +kernel
theorem dX0_balanceNow_21 : decode cX0_balanceNow 21 = .ok (.dsub, 1) := by decide +kernel
theorem dX0_balanceNow_22 : decode cX0_balanceNow 22 = .ok (.dmul, 1) := by decide +kernel
theorem dX0_balanceNow_23 : decode cX0_balanceNow 23 = .ok (.dreturn, 1) := by decide +kernel
theorem dX0_takeUp_0 : decode cX0_takeUp 0 = .ok (.aload_n 0, 1) := by decide +kernel
theorem dX0_takeUp_1 : decode cX0_takeUp 1 = .ok (.getfield 17, 3) := by decide +kernel
theorem dX0_takeUp_4 : decode cX0_takeUp 4 = .ok (.dload_n 1, 1) := by decide +kernel
theorem dX0_takeUp_5 : decode cX0_takeUp 5 = .ok (.ldc2_w 32, 3) := by decide +kernel
theorem dX0_takeUp_8 : decode cX0_takeUp 8 = .ok (.ddiv, 1) := by decide +kernel
theorem dX0_takeUp_9 : decode cX0_takeUp 9 = .ok (.dconst 1, 1) := by decide +kernel
theorem dX0_takeUp_10 : decode cX0_takeUp 10 = .ok (.aload_n 0, 1) := by decide +kernel
theorem dX0_takeUp_11 : decode cX0_takeUp 11 = .ok (.getfield 23, 3) := by decide +kernel
theorem dX0_takeUp_14 : decode cX0_takeUp 14 = .ok (.dsub, 1) := by decide +kernel
theorem dX0_takeUp_15 : decode cX0_takeUp 15 = .ok (.dmul, 1) := by decide +kernel
theorem dX0_takeUp_16 : decode cX0_takeUp 16 = .ok (.dadd, 1) := by decide +kernel
theorem dX0_takeUp_17 : decode cX0_takeUp 17 = .ok (.dstore_n 3, 1) := by decide +kernel
theorem dX0_takeUp_18 : decode cX0_takeUp 18 = .ok (.dload_n 3, 1) := by decide +kernel
theorem dX0_takeUp_19 : decode cX0_takeUp 19 = .ok (.dconst 0, 1) := by decide +kernel
theorem dX0_takeUp_20 : decode cX0_takeUp 20 = .ok (.dcmp .g, 1) := by decide +kernel
theorem dX0_takeUp_21 : decode cX0_takeUp 21 = .ok (.ifCond .ge 5, 3) := by decide +kernel
theorem dX0_takeUp_24 : decode cX0_takeUp 24 = .ok (.dconst 0, 1) := by decide +kernel
theorem dX0_takeUp_25 : decode cX0_takeUp 25 = .ok (.dstore_n 3, 1) := by decide +kernel
theorem dX0_takeUp_26 : decode cX0_takeUp 26 = .ok (.aload_n 0, 1) := by decide +kernel
theorem dX0_takeUp_27 : decode cX0_takeUp 27 = .ok (.dload_n 3, 1) := by decide +kernel
theorem dX0_takeUp_28 : decode cX0_takeUp 28 = .ok (.dconst 1, 1) := by decide +kernel
theorem dX0_takeUp_29 : decode cX0_takeUp 29 = .ok (.dcmp .l, 1) := by decide +kernel
theorem dX0_takeUp_30 : decode cX0_takeUp 30 = .ok (.ifCond .le 7, 3) := by decide +kernel
theorem dX0_takeUp_33 : decode cX0_takeUp 33 = .ok (.dconst 1, 1) := by decide +kernel
theorem dX0_takeUp_34 : decode cX0_takeUp 34 = .ok (.goto 4, 3) := by decide +kernel
theorem dX0_takeUp_37 : decode cX0_takeUp 37 = .ok (.dload_n 3, 1) := by decide +kernel
theorem dX0_takeUp_38 : decode cX0_takeUp 38 = .ok (.putfield 17, 3) := by decide +kernel
theorem dX0_takeUp_41 : decode cX0_takeUp 41 = .ok (.return_, 1) := by decide +kernel
theorem dX1_init_0 : decode cX1_init 0 = .ok (.aload_n 0, 1) := by decide +kernel
theorem dX1_init_1 : decode cX1_init 1 = .ok (.invokespecial 3, 3) := by decide +kernel
theorem dX1_init_4 : decode cX1_init 4 = .ok (.aload_n 0, 1) := by decide +kernel
theorem dX1_init_5 : decode cX1_init 5 = .ok (.iload_n 1, 1) := by decide +kernel
theorem dX1_init_6 : decode cX1_init 6 = .ok (.newarray .double, 2) := by decide +kernel
theorem dX1_init_8 : decode cX1_init 8 = .ok (.putfield 9, 3) := by decide +kernel
theorem dX1_init_11 : decode cX1_init 11 = .ok (.aload_n 0, 1) := by decide +kernel
theorem dX1_init_12 : decode cX1_init 12 = .ok (.aload_n 2, 1) := by decide +kernel
theorem dX1_init_13 : decode cX1_init 13 = .ok (.putfield 15, 3) := by decide +kernel
theorem dX1_init_16 : decode cX1_init 16 = .ok (.return_, 1) := by decide +kernel
theorem dX1_lay_0 : decode cX1_lay 0 = .ok (.aload_n 0, 1) := by decide +kernel
theorem dX1_lay_1 : decode cX1_lay 1 = .ok (.iconst 1, 1) := by decide +kernel
theorem dX1_lay_2 : decode cX1_lay 2 = .ok (.putfield 19, 3) := by decide +kernel
theorem dX1_lay_5 : decode cX1_lay 5 = .ok (.aload_n 0, 1) := by decide +kernel
theorem dX1_lay_6 : decode cX1_lay 6 = .ok (.dload_n 1, 1) := by decide +kernel
theorem dX1_lay_7 : decode cX1_lay 7 = .ok (.aload_n 0, 1) := by decide +kernel
theorem dX1_lay_8 : decode cX1_lay 8 = .ok (.getfield 9, 3) := by decide +kernel
theorem dX1_lay_11 : decode cX1_lay 11 = .ok (.arraylength, 1) := by decide +kernel
theorem dX1_lay_12 : decode cX1_lay 12 = .ok (.i2d, 1) := by decide +kernel
theorem dX1_lay_13 : decode cX1_lay 13 = .ok (.ddiv, 1) := by decide +kernel
theorem dX1_lay_14 : decode cX1_lay 14 = .ok (.putfield 23, 3) := by decide +kernel
theorem dX1_lay_17 : decode cX1_lay 17 = .ok (.aload_n 0, 1) := by decide +kernel
theorem dX1_lay_18 : decode cX1_lay 18 = .ok (.aload 5, 2) := by decide +kernel
theorem dX1_lay_20 : decode cX1_lay 20 = .ok (.putfield 15, 3) := by decide +kernel
theorem dX1_lay_23 : decode cX1_lay 23 = .ok (.iconst 0, 1) := by decide +kernel
theorem dX1_lay_24 : decode cX1_lay 24 = .ok (.istore 6, 2) := by decide +kernel
theorem dX1_lay_26 : decode cX1_lay 26 = .ok (.iload 6, 2) := by decide +kernel
theorem dX1_lay_28 : decode cX1_lay 28 = .ok (.aload_n 0, 1) := by decide +kernel
theorem dX1_lay_29 : decode cX1_lay 29 = .ok (.getfield 9, 3) := by decide +kernel
theorem dX1_lay_32 : decode cX1_lay 32 = .ok (.arraylength, 1) := by decide +kernel
theorem dX1_lay_33 : decode cX1_lay 33 = .ok (.if_icmp .ge 17, 3) := by decide +kernel
theorem dX1_lay_36 : decode cX1_lay 36 = .ok (.aload_n 0, 1) := by decide +kernel
theorem dX1_lay_37 : decode cX1_lay 37 = .ok (.getfield 9, 3) := by decide +kernel
theorem dX1_lay_40 : decode cX1_lay 40 = .ok (.iload 6, 2) := by decide +kernel
theorem dX1_lay_42 : decode cX1_lay 42 = .ok (.dload_n 3, 1) := by decide +kernel
theorem dX1_lay_43 : decode cX1_lay 43 = .ok (.dastore, 1) := by decide +kernel
theorem dX1_lay_44 : decode cX1_lay 44 = .ok (.iinc 6 1, 3) := by decide +kernel
theorem dX1_lay_47 : decode cX1_lay 47 = .ok (.goto (-21), 3) := by decide +kernel
theorem dX1_lay_50 : decode cX1_lay 50 = .ok (.aload_n 0, 1) := by decide +kernel
theorem dX1_lay_51 : decode cX1_lay 51 = .ok (.iconst 0, 1) := by decide +kernel
theorem dX1_lay_52 : decode cX1_lay 52 = .ok (.putfield 27, 3) := by decide +kernel
theorem dX1_lay_55 : decode cX1_lay 55 = .ok (.aload_n 0, 1) := by decide +kernel
theorem dX1_lay_56 : decode cX1_lay 56 = .ok (.iconst (-1), 1) := by decide +kernel
theorem dX1_lay_57 : decode cX1_lay 57 = .ok (.putfield 30, 3) := by decide +kernel
theorem dX1_lay_60 : decode cX1_lay 60 = .ok (.return_, 1) := by decide +kernel
theorem dX1_setLimit_0 : decode cX1_setLimit 0 = .ok (.aload_n 0, 1) := by decide +kernel
theorem dX1_setLimit_1 : decode cX1_setLimit 1 = .ok (.iconst 1, 1) := by decide +kernel
theorem dX1_setLimit_2 : decode cX1_setLimit 2 = .ok (.putfield 27, 3) := by decide +kernel
theorem dX1_setLimit_5 : decode cX1_setLimit 5 = .ok (.aload_n 0, 1) := by decide +kernel
theorem dX1_setLimit_6 : decode cX1_setLimit 6 = .ok (.dload_n 1, 1) := by decide +kernel
theorem dX1_setLimit_7 : decode cX1_setLimit 7 = .ok (.putfield 34, 3) := by decide +kernel
theorem dX1_setLimit_10 : decode cX1_setLimit 10 = .ok (.aload_n 0, 1) := by decide +kernel
theorem dX1_setLimit_11 : decode cX1_setLimit 11 = .ok (.iconst (-1), 1) := by decide +kernel
theorem dX1_setLimit_12 : decode cX1_setLimit 12 = .ok (.putfield 30, 3) := by decide +kernel
theorem dX1_setLimit_15 : decode cX1_setLimit 15 = .ok (.return_, 1) := by decide +kernel
theorem dX1_meanWetness_0 : decode cX1_meanWetness 0 = .ok (.dconst 0, 1) := by decide +kernel
theorem dX1_meanWetness_1 : decode cX1_meanWetness 1 = .ok (.dstore_n 1, 1) := by decide +kernel
theorem dX1_meanWetness_2 : decode cX1_meanWetness 2 = .ok (.iconst 0, 1) := by decide +kernel
theorem dX1_meanWetness_3 : decode cX1_meanWetness 3 = .ok (.istore_n 3, 1) := by decide +kernel
theorem dX1_meanWetness_4 : decode cX1_meanWetness 4 = .ok (.iload_n 3, 1) := by decide +kernel
theorem dX1_meanWetness_5 : decode cX1_meanWetness 5 = .ok (.aload_n 0, 1) := by decide +kernel
theorem dX1_meanWetness_6 : decode cX1_meanWetness 6 = .ok (.getfield 9, 3) := by decide +kernel
theorem dX1_meanWetness_9 : decode cX1_meanWetness 9 = .ok (.arraylength, 1) := by decide +kernel
theorem dX1_meanWetness_10 : decode cX1_meanWetness 10 = .ok (.if_icmp .ge 18, 3) := by decide +kernel
theorem dX1_meanWetness_13 : decode cX1_meanWetness 13 = .ok (.dload_n 1, 1) := by decide +kernel
theorem dX1_meanWetness_14 : decode cX1_meanWetness 14 = .ok (.aload_n 0, 1) := by decide +kernel
theorem dX1_meanWetness_15 : decode cX1_meanWetness 15 = .ok (.getfield 9, 3) := by decide +kernel
theorem dX1_meanWetness_18 : decode cX1_meanWetness 18 = .ok (.iload_n 3, 1) := by decide +kernel
theorem dX1_meanWetness_19 : decode cX1_meanWetness 19 = .ok (.daload, 1) := by decide +kernel
theorem dX1_meanWetness_20 : decode cX1_meanWetness 20 = .ok (.dadd, 1) := by decide +kernel
theorem dX1_meanWetness_21 : decode cX1_meanWetness 21 = .ok (.dstore_n 1, 1) := by decide +kernel
theorem dX1_meanWetness_22 : decode cX1_meanWetness 22 = .ok (.iinc 3 1, 3) := by decide +kernel
theorem dX1_meanWetness_25 : decode cX1_meanWetness 25 = .ok (.goto (-21), 3) := by decide +kernel
theorem dX1_meanWetness_28 : decode cX1_meanWetness 28 = .ok (.dload_n 1, 1) := by decide +kernel
theorem dX1_meanWetness_29 : decode cX1_meanWetness 29 = .ok (.aload_n 0, 1) := by decide +kernel
theorem dX1_meanWetness_30 : decode cX1_meanWetness 30 = .ok (.getfield 9, 3) := by decide +kernel
theorem dX1_meanWetness_33 : decode cX1_meanWetness 33 = .ok (.arraylength, 1) := by decide +kernel
theorem dX1_meanWetness_34 : decode cX1_meanWetness 34 = .ok (.i2d, 1) := by decide +kernel
theorem dX1_meanWetness_35 : decode cX1_meanWetness 35 = .ok (.ddiv, 1) := by decide +kernel
theorem dX1_meanWetness_36 : decode cX1_meanWetness 36 = .ok (.dreturn, 1) := by decide +kernel
theorem dX1_greatestWetness_0 : decode cX1_greatestWetness 0 = .ok (.dconst 0, 1) := by decide +kernel
theorem dX1_greatestWetness_1 : decode cX1_greatestWetness 1 = .ok (.dstore_n 1, 1) := by decide +kernel
theorem dX1_greatestWetness_2 : decode cX1_greatestWetness 2 = .ok (.iconst 0, 1) := by decide +kernel
theorem dX1_greatestWetness_3 : decode cX1_greatestWetness 3 = .ok (.istore_n 3, 1) := by decide +kernel
theorem dX1_greatestWetness_4 : decode cX1_greatestWetness 4 = .ok (.iload_n 3, 1) := by decide +kernel
theorem dX1_greatestWetness_5 : decode cX1_greatestWetness 5 = .ok (.aload_n 0, 1) := by decide +kernel
theorem dX1_greatestWetness_6 : decode cX1_greatestWetness 6 = .ok (.getfield 9, 3) := by decide +kernel
theorem dX1_greatestWetness_9 : decode cX1_greatestWetness 9 = .ok (.arraylength, 1) := by decide +kernel
theorem dX1_greatestWetness_10 : decode cX1_greatestWetness 10 = .ok (.if_icmp .ge 27, 3) := by decide +kernel
theorem dX1_greatestWetness_13 : decode cX1_greatestWetness 13 = .ok (.aload_n 0, 1) := by decide +kernel
theorem dX1_greatestWetness_14 : decode cX1_greatestWetness 14 = .ok (.getfield 9, 3) := by decide +kernel
theorem dX1_greatestWetness_17 : decode cX1_greatestWetness 17 = .ok (.iload_n 3, 1) := by decide +kernel
theorem dX1_greatestWetness_18 : decode cX1_greatestWetness 18 = .ok (.daload, 1) := by decide +kernel
theorem dX1_greatestWetness_19 : decode cX1_greatestWetness 19 = .ok (.dload_n 1, 1) := by decide +kernel
theorem dX1_greatestWetness_20 : decode cX1_greatestWetness 20 = .ok (.dcmp .l, 1) := by decide +kernel
theorem dX1_greatestWetness_21 : decode cX1_greatestWetness 21 = .ok (.ifCond .le 10, 3) := by decide +kernel
theorem dX1_greatestWetness_24 : decode cX1_greatestWetness 24 = .ok (.aload_n 0, 1) := by decide +kernel
theorem dX1_greatestWetness_25 : decode cX1_greatestWetness 25 = .ok (.getfield 9, 3) := by decide +kernel
theorem dX1_greatestWetness_28 : decode cX1_greatestWetness 28 = .ok (.iload_n 3, 1) := by decide +kernel
theorem dX1_greatestWetness_29 : decode cX1_greatestWetness 29 = .ok (.daload, 1) := by decide +kernel
theorem dX1_greatestWetness_30 : decode cX1_greatestWetness 30 = .ok (.dstore_n 1, 1) := by decide +kernel
theorem dX1_greatestWetness_31 : decode cX1_greatestWetness 31 = .ok (.iinc 3 1, 3) := by decide +kernel
theorem dX1_greatestWetness_34 : decode cX1_greatestWetness 34 = .ok (.goto (-30), 3) := by decide +kernel
theorem dX1_greatestWetness_37 : decode cX1_greatestWetness 37 = .ok (.dload_n 1, 1) := by decide +kernel
theorem dX1_greatestWetness_38 : decode cX1_greatestWetness 38 = .ok (.dreturn, 1) := by decide +kernel
theorem dX1_refuses_0 : decode cX1_refuses 0 = .ok (.dload_n 1, 1) := by decide +kernel
theorem dX1_refuses_1 : decode cX1_refuses 1 = .ok (.ldc2_w 37, 3) := by decide +kernel
theorem dX1_refuses_4 : decode cX1_refuses 4 = .ok (.aload_n 0, 1) := by decide +kernel
theorem dX1_refuses_5 : decode cX1_refuses 5 = .ok (.getfield 23, 3) := by decide +kernel
theorem dX1_refuses_8 : decode cX1_refuses 8 = .ok (.dmul, 1) := by decide +kernel
theorem dX1_refuses_9 : decode cX1_refuses 9 = .ok (.ddiv, 1) := by decide +kernel
theorem dX1_refuses_10 : decode cX1_refuses 10 = .ok (.ldc2_w 39, 3) := by decide +kernel
theorem dX1_refuses_13 : decode cX1_refuses 13 = .ok (.dcmp .l, 1) := by decide +kernel
theorem dX1_refuses_14 : decode cX1_refuses 14 = .ok (.ifCond .gt 31, 3) := by decide +kernel
theorem dX1_refuses_17 : decode cX1_refuses 17 = .ok (.aload_n 0, 1) := by decide +kernel
theorem dX1_refuses_18 : decode cX1_refuses 18 = .ok (.getfield 15, 3) := by decide +kernel
theorem dX1_refuses_21 : decode cX1_refuses 21 = .ok (.aload_n 0, 1) := by decide +kernel
theorem dX1_refuses_22 : decode cX1_refuses 22 = .ok (.invokevirtual 41, 3) := by decide +kernel
theorem dX1_refuses_25 : decode cX1_refuses 25 = .ok (.invokevirtual 45, 3) := by decide +kernel
theorem dX1_refuses_28 : decode cX1_refuses 28 = .ok (.aload_n 0, 1) := by decide +kernel
theorem dX1_refuses_29 : decode cX1_refuses 29 = .ok (.getfield 23, 3) := by decide +kernel
theorem dX1_refuses_32 : decode cX1_refuses 32 = .ok (.aload_n 0, 1) := by decide +kernel
theorem dX1_refuses_33 : decode cX1_refuses 33 = .ok (.getfield 23, 3) := by decide +kernel
theorem dX1_refuses_36 : decode cX1_refuses 36 = .ok (.dmul, 1) := by decide +kernel
theorem dX1_refuses_37 : decode cX1_refuses 37 = .ok (.ddiv, 1) := by decide +kernel
theorem dX1_refuses_38 : decode cX1_refuses 38 = .ok (.ldc2_w 39, 3) := by decide +kernel
theorem dX1_refuses_41 : decode cX1_refuses 41 = .ok (.dcmp .l, 1) := by decide +kernel
theorem dX1_refuses_42 : decode cX1_refuses 42 = .ok (.ifCond .le 7, 3) := by decide +kernel
theorem dX1_refuses_45 : decode cX1_refuses 45 = .ok (.iconst 1, 1) := by decide +kernel
theorem dX1_refuses_46 : decode cX1_refuses 46 = .ok (.goto 4, 3) := by decide +kernel
theorem dX1_refuses_49 : decode cX1_refuses 49 = .ok (.iconst 0, 1) := by decide +kernel
theorem dX1_refuses_50 : decode cX1_refuses 50 = .ok (.ireturn, 1) := by decide +kernel
theorem dX1_dry_0 : decode cX1_dry 0 = .ok (.aload_n 0, 1) := by decide +kernel
theorem dX1_dry_1 : decode cX1_dry 1 = .ok (.getfield 9, 3) := by decide +kernel
theorem dX1_dry_4 : decode cX1_dry 4 = .ok (.arraylength, 1) := by decide +kernel
theorem dX1_dry_5 : decode cX1_dry 5 = .ok (.iconst 1, 1) := by decide +kernel
theorem dX1_dry_6 : decode cX1_dry 6 = .ok (.isub, 1) := by decide +kernel
theorem dX1_dry_7 : decode cX1_dry 7 = .ok (.istore 5, 2) := by decide +kernel
theorem dX1_dry_9 : decode cX1_dry 9 = .ok (.aload_n 0, 1) := by decide +kernel
theorem dX1_dry_10 : decode cX1_dry 10 = .ok (.aload_n 0, 1) := by decide +kernel
theorem dX1_dry_11 : decode cX1_dry 11 = .ok (.getfield 9, 3) := by decide +kernel
theorem dX1_dry_14 : decode cX1_dry 14 = .ok (.iconst 0, 1) := by decide +kernel
theorem dX1_dry_15 : decode cX1_dry 15 = .ok (.daload, 1) := by decide +kernel
theorem dX1_dry_16 : decode cX1_dry 16 = .ok (.dload_n 1, 1) := by decide +kernel
theorem dX1_dry_17 : decode cX1_dry 17 = .ok (.dload_n 3, 1) := by decide +kernel
theorem dX1_dry_18 : decode cX1_dry 18 = .ok (.invokevirtual 51, 3) := by decide +kernel
theorem dX1_dry_21 : decode cX1_dry 21 = .ok (.dstore 6, 2) := by decide +kernel
theorem dX1_dry_23 : decode cX1_dry 23 = .ok (.aload_n 0, 1) := by decide +kernel
theorem dX1_dry_24 : decode cX1_dry 24 = .ok (.aload_n 0, 1) := by decide +kernel
theorem dX1_dry_25 : decode cX1_dry 25 = .ok (.getfield 9, 3) := by decide +kernel
theorem dX1_dry_28 : decode cX1_dry 28 = .ok (.iload 5, 2) := by decide +kernel
theorem dX1_dry_30 : decode cX1_dry 30 = .ok (.daload, 1) := by decide +kernel
theorem dX1_dry_31 : decode cX1_dry 31 = .ok (.dload_n 1, 1) := by decide +kernel
theorem dX1_dry_32 : decode cX1_dry 32 = .ok (.dload_n 3, 1) := by decide +kernel
theorem dX1_dry_33 : decode cX1_dry 33 = .ok (.invokevirtual 51, 3) := by decide +kernel
theorem dX1_dry_36 : decode cX1_dry 36 = .ok (.dstore 8, 2) := by decide +kernel
theorem dX1_dry_38 : decode cX1_dry 38 = .ok (.dload 6, 2) := by decide +kernel
theorem dX1_dry_40 : decode cX1_dry 40 = .ok (.dneg, 1) := by decide +kernel
theorem dX1_dry_41 : decode cX1_dry 41 = .ok (.dstore 10, 2) := by decide +kernel
theorem dX1_dry_43 : decode cX1_dry 43 = .ok (.iconst 0, 1) := by decide +kernel
theorem dX1_dry_44 : decode cX1_dry 44 = .ok (.istore 12, 2) := by decide +kernel
theorem dX1_dry_46 : decode cX1_dry 46 = .ok (.iload 12, 2) := by decide +kernel
theorem dX1_dry_48 : decode cX1_dry 48 = .ok (.iload 5, 2) := by decide +kernel
theorem dX1_dry_50 : decode cX1_dry 50 = .ok (.if_icmp .gt 67, 3) := by decide +kernel
theorem dX1_dry_53 : decode cX1_dry 53 = .ok (.iload 12, 2) := by decide +kernel
theorem dX1_dry_55 : decode cX1_dry 55 = .ok (.iload 5, 2) := by decide +kernel
theorem dX1_dry_57 : decode cX1_dry 57 = .ok (.if_icmp .ge 26, 3) := by decide +kernel
theorem dX1_dry_60 : decode cX1_dry 60 = .ok (.aload_n 0, 1) := by decide +kernel
theorem dX1_dry_61 : decode cX1_dry 61 = .ok (.aload_n 0, 1) := by decide +kernel
theorem dX1_dry_62 : decode cX1_dry 62 = .ok (.getfield 9, 3) := by decide +kernel
theorem dX1_dry_65 : decode cX1_dry 65 = .ok (.iload 12, 2) := by decide +kernel
theorem dX1_dry_67 : decode cX1_dry 67 = .ok (.daload, 1) := by decide +kernel
theorem dX1_dry_68 : decode cX1_dry 68 = .ok (.aload_n 0, 1) := by decide +kernel
theorem dX1_dry_69 : decode cX1_dry 69 = .ok (.getfield 9, 3) := by decide +kernel
theorem dX1_dry_72 : decode cX1_dry 72 = .ok (.iload 12, 2) := by decide +kernel
theorem dX1_dry_74 : decode cX1_dry 74 = .ok (.iconst 1, 1) := by decide +kernel
theorem dX1_dry_75 : decode cX1_dry 75 = .ok (.iadd, 1) := by decide +kernel
theorem dX1_dry_76 : decode cX1_dry 76 = .ok (.daload, 1) := by decide +kernel
theorem dX1_dry_77 : decode cX1_dry 77 = .ok (.invokevirtual 55, 3) := by decide +kernel
theorem dX1_dry_80 : decode cX1_dry 80 = .ok (.goto 5, 3) := by decide +kernel
theorem dX1_dry_83 : decode cX1_dry 83 = .ok (.dload 8, 2) := by decide +kernel
theorem dX1_dry_85 : decode cX1_dry 85 = .ok (.dstore 13, 2) := by decide +kernel
theorem dX1_dry_87 : decode cX1_dry 87 = .ok (.aload_n 0, 1) := by decide +kernel
theorem dX1_dry_88 : decode cX1_dry 88 = .ok (.getfield 9, 3) := by decide +kernel
theorem dX1_dry_91 : decode cX1_dry 91 = .ok (.iload 12, 2) := by decide +kernel
theorem dX1_dry_93 : decode cX1_dry 93 = .ok (.aload_n 0, 1) := by decide +kernel
theorem dX1_dry_94 : decode cX1_dry 94 = .ok (.getfield 9, 3) := by decide +kernel
theorem dX1_dry_97 : decode cX1_dry 97 = .ok (.iload 12, 2) := by decide +kernel
theorem dX1_dry_99 : decode cX1_dry 99 = .ok (.daload, 1) := by decide +kernel
theorem dX1_dry_100 : decode cX1_dry 100 = .ok (.dload 10, 2) := by decide +kernel
theorem dX1_dry_102 : decode cX1_dry 102 = .ok (.dadd, 1) := by decide +kernel
theorem dX1_dry_103 : decode cX1_dry 103 = .ok (.dload 13, 2) := by decide +kernel
theorem dX1_dry_105 : decode cX1_dry 105 = .ok (.dsub, 1) := by decide +kernel
theorem dX1_dry_106 : decode cX1_dry 106 = .ok (.dastore, 1) := by decide +kernel
theorem dX1_dry_107 : decode cX1_dry 107 = .ok (.dload 13, 2) := by decide +kernel
theorem dX1_dry_109 : decode cX1_dry 109 = .ok (.dstore 10, 2) := by decide +kernel
theorem dX1_dry_111 : decode cX1_dry 111 = .ok (.iinc 12 1, 3) := by decide +kernel
theorem dX1_dry_114 : decode cX1_dry 114 = .ok (.goto (-68), 3) := by decide +kernel
theorem dX1_dry_117 : decode cX1_dry 117 = .ok (.dload 6, 2) := by decide +kernel
theorem dX1_dry_119 : decode cX1_dry 119 = .ok (.dload 8, 2) := by decide +kernel
theorem dX1_dry_121 : decode cX1_dry 121 = .ok (.dadd, 1) := by decide +kernel
theorem dX1_dry_122 : decode cX1_dry 122 = .ok (.aload_n 0, 1) := by decide +kernel
theorem dX1_dry_123 : decode cX1_dry 123 = .ok (.getfield 23, 3) := by decide +kernel
theorem dX1_dry_126 : decode cX1_dry 126 = .ok (.dmul, 1) := by decide +kernel
theorem dX1_dry_127 : decode cX1_dry 127 = .ok (.ldc2_w 59, 3) := by decide +kernel
theorem dX1_dry_130 : decode cX1_dry 130 = .ok (.dmul, 1) := by decide +kernel
theorem dX1_dry_131 : decode cX1_dry 131 = .ok (.dreturn, 1) := by decide +kernel
theorem dX1_faceFlow_0 : decode cX1_faceFlow 0 = .ok (.dload_n 3, 1) := by decide +kernel
theorem dX1_faceFlow_1 : decode cX1_faceFlow 1 = .ok (.dload_n 1, 1) := by decide +kernel
theorem dX1_faceFlow_2 : decode cX1_faceFlow 2 = .ok (.dload 5, 2) := by decide +kernel
theorem dX1_faceFlow_4 : decode cX1_faceFlow 4 = .ok (.dsub, 1) := by decide +kernel
theorem dX1_faceFlow_5 : decode cX1_faceFlow 5 = .ok (.dmul, 1) := by decide +kernel
theorem dX1_faceFlow_6 : decode cX1_faceFlow 6 = .ok (.ldc2_w 37, 3) := by decide +kernel
theorem dX1_faceFlow_9 : decode cX1_faceFlow 9 = .ok (.aload_n 0, 1) := by decide +kernel
theorem dX1_faceFlow_10 : decode cX1_faceFlow 10 = .ok (.getfield 23, 3) := by decide +kernel
theorem dX1_faceFlow_13 : decode cX1_faceFlow 13 = .ok (.dmul, 1) := by decide +kernel
theorem dX1_faceFlow_14 : decode cX1_faceFlow 14 = .ok (.ddiv, 1) := by decide +kernel
theorem dX1_faceFlow_15 : decode cX1_faceFlow 15 = .ok (.dreturn, 1) := by decide +kernel
theorem dX1_slopeFlow_0 : decode cX1_slopeFlow 0 = .ok (.aload_n 0, 1) := by decide +kernel
theorem dX1_slopeFlow_1 : decode cX1_slopeFlow 1 = .ok (.getfield 15, 3) := by decide +kernel
theorem dX1_slopeFlow_4 : decode cX1_slopeFlow 4 = .ok (.dload_n 1, 1) := by decide +kernel
theorem dX1_slopeFlow_5 : decode cX1_slopeFlow 5 = .ok (.dload_n 3, 1) := by decide +kernel
theorem dX1_slopeFlow_6 : decode cX1_slopeFlow 6 = .ok (.dadd, 1) := by decide +kernel
theorem dX1_slopeFlow_7 : decode cX1_slopeFlow 7 = .ok (.ldc2_w 61, 3) := by decide +kernel
theorem dX1_slopeFlow_10 : decode cX1_slopeFlow 10 = .ok (.ddiv, 1) := by decide +kernel
theorem dX1_slopeFlow_11 : decode cX1_slopeFlow 11 = .ok (.invokevirtual 45, 3) := by decide +kernel
theorem dX1_slopeFlow_14 : decode cX1_slopeFlow 14 = .ok (.dload_n 1, 1) := by decide +kernel
theorem dX1_slopeFlow_15 : decode cX1_slopeFlow 15 = .ok (.dload_n 3, 1) := by decide +kernel
theorem dX1_slopeFlow_16 : decode cX1_slopeFlow 16 = .ok (.dsub, 1) := by decide +kernel
theorem dX1_slopeFlow_17 : decode cX1_slopeFlow 17 = .ok (.dmul, 1) := by decide +kernel
theorem dX1_slopeFlow_18 : decode cX1_slopeFlow 18 = .ok (.aload_n 0, 1) := by decide +kernel
theorem dX1_slopeFlow_19 : decode cX1_slopeFlow 19 = .ok (.getfield 23, 3) := by decide +kernel
theorem dX1_slopeFlow_22 : decode cX1_slopeFlow 22 = .ok (.aload_n 0, 1) := by decide +kernel
theorem dX1_slopeFlow_23 : decode cX1_slopeFlow 23 = .ok (.getfield 23, 3) := by decide +kernel
theorem dX1_slopeFlow_26 : decode cX1_slopeFlow 26 = .ok (.dmul, 1) := by decide +kernel
theorem dX1_slopeFlow_27 : decode cX1_slopeFlow 27 = .ok (.ddiv, 1) := by decide +kernel
theorem dX1_slopeFlow_28 : decode cX1_slopeFlow 28 = .ok (.dreturn, 1) := by decide +kernel
theorem dX1_shrinkage_0 : decode cX1_shrinkage 0 = .ok (.ldc2_w 39, 3) := by decide +kernel
theorem dX1_shrinkage_3 : decode cX1_shrinkage 3 = .ok (.ldc2_w 63, 3) := by decide +kernel
theorem dX1_shrinkage_6 : decode cX1_shrinkage 6 = .ok (.dload_n 0, 1) := by decide +kernel
theorem dX1_shrinkage_7 : decode cX1_shrinkage 7 = .ok (.ldc2_w 63, 3) := by decide +kernel
theorem dX1_shrinkage_10 : decode cX1_shrinkage 10 = .ok (.dcmp .g, 1) := by decide +kernel
theorem dX1_shrinkage_11 : decode cX1_shrinkage 11 = .ok (.ifCond .ge 7, 3) := by decide +kernel
theorem dX1_shrinkage_14 : decode cX1_shrinkage 14 = .ok (.dload_n 0, 1) := by decide +kernel
theorem dX1_shrinkage_15 : decode cX1_shrinkage 15 = .ok (.goto 6, 3) := by decide +kernel
theorem dX1_shrinkage_18 : decode cX1_shrinkage 18 = .ok (.ldc2_w 63, 3) := by decide +kernel
theorem dX1_shrinkage_21 : decode cX1_shrinkage 21 = .ok (.dsub, 1) := by decide +kernel
theorem dX1_shrinkage_22 : decode cX1_shrinkage 22 = .ok (.dmul, 1) := by decide +kernel
theorem dX1_shrinkage_23 : decode cX1_shrinkage 23 = .ok (.dreturn, 1) := by decide +kernel
theorem dX1_meanShrinkage_0 : decode cX1_meanShrinkage 0 = .ok (.dconst 0, 1) := by decide +kernel
theorem dX1_meanShrinkage_1 : decode cX1_meanShrinkage 1 = .ok (.dstore_n 1, 1) := by decide +kernel
theorem dX1_meanShrinkage_2 : decode cX1_meanShrinkage 2 = .ok (.iconst 0, 1) := by decide +kernel
theorem dX1_meanShrinkage_3 : decode cX1_meanShrinkage 3 = .ok (.istore_n 3, 1) := by decide +kernel
theorem dX1_meanShrinkage_4 : decode cX1_meanShrinkage 4 = .ok (.iload_n 3, 1) := by decide +kernel
theorem dX1_meanShrinkage_5 : decode cX1_meanShrinkage 5 = .ok (.aload_n 0, 1) := by decide +kernel
theorem dX1_meanShrinkage_6 : decode cX1_meanShrinkage 6 = .ok (.getfield 9, 3) := by decide +kernel
theorem dX1_meanShrinkage_9 : decode cX1_meanShrinkage 9 = .ok (.arraylength, 1) := by decide +kernel
theorem dX1_meanShrinkage_10 : decode cX1_meanShrinkage 10 = .ok (.if_icmp .ge 21, 3) := by decide +kernel
theorem dX1_meanShrinkage_13 : decode cX1_meanShrinkage 13 = .ok (.dload_n 1, 1) := by decide +kernel
theorem dX1_meanShrinkage_14 : decode cX1_meanShrinkage 14 = .ok (.aload_n 0, 1) := by decide +kernel
theorem dX1_meanShrinkage_15 : decode cX1_meanShrinkage 15 = .ok (.getfield 9, 3) := by decide +kernel
theorem dX1_meanShrinkage_18 : decode cX1_meanShrinkage 18 = .ok (.iload_n 3, 1) := by decide +kernel
theorem dX1_meanShrinkage_19 : decode cX1_meanShrinkage 19 = .ok (.daload, 1) := by decide +kernel
theorem dX1_meanShrinkage_20 : decode cX1_meanShrinkage 20 = .ok (.invokestatic 65, 3) := by decide +kernel
theorem dX1_meanShrinkage_23 : decode cX1_meanShrinkage 23 = .ok (.dadd, 1) := by decide +kernel
theorem dX1_meanShrinkage_24 : decode cX1_meanShrinkage 24 = .ok (.dstore_n 1, 1) := by decide +kernel
theorem dX1_meanShrinkage_25 : decode cX1_meanShrinkage 25 = .ok (.iinc 3 1, 3) := by decide +kernel
theorem dX1_meanShrinkage_28 : decode cX1_meanShrinkage 28 = .ok (.goto (-24), 3) := by decide +kernel
theorem dX1_meanShrinkage_31 : decode cX1_meanShrinkage 31 = .ok (.dload_n 1, 1) := by decide +kernel
theorem dX1_meanShrinkage_32 : decode cX1_meanShrinkage 32 = .ok (.aload_n 0, 1) := by decide +kernel
theorem dX1_meanShrinkage_33 : decode cX1_meanShrinkage 33 = .ok (.getfield 9, 3) := by decide +kernel
theorem dX1_meanShrinkage_36 : decode cX1_meanShrinkage 36 = .ok (.arraylength, 1) := by decide +kernel
theorem dX1_meanShrinkage_37 : decode cX1_meanShrinkage 37 = .ok (.i2d, 1) := by decide +kernel
theorem dX1_meanShrinkage_38 : decode cX1_meanShrinkage 38 = .ok (.ddiv, 1) := by decide +kernel
theorem dX1_meanShrinkage_39 : decode cX1_meanShrinkage 39 = .ok (.dreturn, 1) := by decide +kernel
theorem dX1_greatestLoad_0 : decode cX1_greatestLoad 0 = .ok (.aload_n 0, 1) := by decide +kernel
theorem dX1_greatestLoad_1 : decode cX1_greatestLoad 1 = .ok (.invokevirtual 68, 3) := by decide +kernel
theorem dX1_greatestLoad_4 : decode cX1_greatestLoad 4 = .ok (.dstore_n 1, 1) := by decide +kernel
theorem dX1_greatestLoad_5 : decode cX1_greatestLoad 5 = .ok (.dconst 0, 1) := by decide +kernel
theorem dX1_greatestLoad_6 : decode cX1_greatestLoad 6 = .ok (.dstore_n 3, 1) := by decide +kernel
theorem dX1_greatestLoad_7 : decode cX1_greatestLoad 7 = .ok (.iconst 0, 1) := by decide +kernel
theorem dX1_greatestLoad_8 : decode cX1_greatestLoad 8 = .ok (.istore 5, 2) := by decide +kernel
theorem dX1_greatestLoad_10 : decode cX1_greatestLoad 10 = .ok (.iload 5, 2) := by decide +kernel
theorem dX1_greatestLoad_12 : decode cX1_greatestLoad 12 = .ok (.aload_n 0, 1) := by decide +kernel
theorem dX1_greatestLoad_13 : decode cX1_greatestLoad 13 = .ok (.getfield 9, 3) := by decide +kernel
theorem dX1_greatestLoad_16 : decode cX1_greatestLoad 16 = .ok (.arraylength, 1) := by decide +kernel
theorem dX1_greatestLoad_17 : decode cX1_greatestLoad 17 = .ok (.if_icmp .ge 50, 3) := by decide +kernel
theorem dX1_greatestLoad_20 : decode cX1_greatestLoad 20 = .ok (.aload_n 0, 1) := by decide +kernel
theorem dX1_greatestLoad_21 : decode cX1_greatestLoad 21 = .ok (.getfield 9, 3) := by decide +kernel
theorem dX1_greatestLoad_24 : decode cX1_greatestLoad 24 = .ok (.iload 5, 2) := by decide +kernel
theorem dX1_greatestLoad_26 : decode cX1_greatestLoad 26 = .ok (.daload, 1) := by decide +kernel
theorem dX1_greatestLoad_27 : decode cX1_greatestLoad 27 = .ok (.invokestatic 65, 3) := by decide +kernel
theorem dX1_greatestLoad_30 : decode cX1_greatestLoad 30 = .ok (.dload_n 1, 1) := by decide +kernel
theorem dX1_greatestLoad_31 : decode cX1_greatestLoad 31 = .ok (.dsub, 1) := by decide +kernel
theorem dX1_greatestLoad_32 : decode cX1_greatestLoad 32 = .ok (.dstore 6, 2) := by decide +kernel
theorem dX1_greatestLoad_34 : decode cX1_greatestLoad 34 = .ok (.dload 6, 2) := by decide +kernel
theorem dX1_greatestLoad_36 : decode cX1_greatestLoad 36 = .ok (.dconst 0, 1) := by decide +kernel
theorem dX1_greatestLoad_37 : decode cX1_greatestLoad 37 = .ok (.dcmp .g, 1) := by decide +kernel
theorem dX1_greatestLoad_38 : decode cX1_greatestLoad 38 = .ok (.ifCond .ge 9, 3) := by decide +kernel
theorem dX1_greatestLoad_41 : decode cX1_greatestLoad 41 = .ok (.dload 6, 2) := by decide +kernel
theorem dX1_greatestLoad_43 : decode cX1_greatestLoad 43 = .ok (.dneg, 1) := by decide +kernel
theorem dX1_greatestLoad_44 : decode cX1_greatestLoad 44 = .ok (.goto 5, 3) := by decide +kernel
theorem dX1_greatestLoad_47 : decode cX1_greatestLoad 47 = .ok (.dload 6, 2) := by decide +kernel
theorem dX1_greatestLoad_49 : decode cX1_greatestLoad 49 = .ok (.dstore 8, 2) := by decide +kernel
theorem dX1_greatestLoad_51 : decode cX1_greatestLoad 51 = .ok (.dload 8, 2) := by decide +kernel
theorem dX1_greatestLoad_53 : decode cX1_greatestLoad 53 = .ok (.dload_n 3, 1) := by decide +kernel
theorem dX1_greatestLoad_54 : decode cX1_greatestLoad 54 = .ok (.dcmp .l, 1) := by decide +kernel
theorem dX1_greatestLoad_55 : decode cX1_greatestLoad 55 = .ok (.ifCond .le 6, 3) := by decide +kernel
theorem dX1_greatestLoad_58 : decode cX1_greatestLoad 58 = .ok (.dload 8, 2) := by decide +kernel
theorem dX1_greatestLoad_60 : decode cX1_greatestLoad 60 = .ok (.dstore_n 3, 1) := by decide +kernel
theorem dX1_greatestLoad_61 : decode cX1_greatestLoad 61 = .ok (.iinc 5 1, 3) := by decide +kernel
theorem dX1_greatestLoad_64 : decode cX1_greatestLoad 64 = .ok (.goto (-54), 3) := by decide +kernel
theorem dX1_greatestLoad_67 : decode cX1_greatestLoad 67 = .ok (.dload_n 3, 1) := by decide +kernel
theorem dX1_greatestLoad_68 : decode cX1_greatestLoad 68 = .ok (.dreturn, 1) := by decide +kernel
theorem dX1_watchLoad_0 : decode cX1_watchLoad 0 = .ok (.aload_n 0, 1) := by decide +kernel
theorem dX1_watchLoad_1 : decode cX1_watchLoad 1 = .ok (.getfield 27, 3) := by decide +kernel
theorem dX1_watchLoad_4 : decode cX1_watchLoad 4 = .ok (.ifCond .eq 28, 3) := by decide +kernel
theorem dX1_watchLoad_7 : decode cX1_watchLoad 7 = .ok (.aload_n 0, 1) := by decide +kernel
theorem dX1_watchLoad_8 : decode cX1_watchLoad 8 = .ok (.getfield 30, 3) := by decide +kernel
theorem dX1_watchLoad_11 : decode cX1_watchLoad 11 = .ok (.iconst (-1), 1) := by decide +kernel
theorem dX1_watchLoad_12 : decode cX1_watchLoad 12 = .ok (.if_icmp .ne 20, 3) := by decide +kernel
theorem dX1_watchLoad_15 : decode cX1_watchLoad 15 = .ok (.aload_n 0, 1) := by decide +kernel
theorem dX1_watchLoad_16 : decode cX1_watchLoad 16 = .ok (.invokevirtual 71, 3) := by decide +kernel
theorem dX1_watchLoad_19 : decode cX1_watchLoad 19 = .ok (.aload_n 0, 1) := by decide +kernel
theorem dX1_watchLoad_20 : decode cX1_watchLoad 20 = .ok (.getfield 34, 3) := by decide +kernel
theorem dX1_watchLoad_23 : decode cX1_watchLoad 23 = .ok (.dcmp .l, 1) := by decide +kernel
theorem dX1_watchLoad_24 : decode cX1_watchLoad 24 = .ok (.ifCond .le 8, 3) := by decide +kernel
theorem dX1_watchLoad_27 : decode cX1_watchLoad 27 = .ok (.aload_n 0, 1) := by decide +kernel
theorem dX1_watchLoad_28 : decode cX1_watchLoad 28 = .ok (.iload_n 1, 1) := by decide +kernel
theorem dX1_watchLoad_29 : decode cX1_watchLoad 29 = .ok (.putfield 30, 3) := by decide +kernel
theorem dX1_watchLoad_32 : decode cX1_watchLoad 32 = .ok (.return_, 1) := by decide +kernel
theorem dX2_init_0 : decode cX2_init 0 = .ok (.aload_n 0, 1) := by decide +kernel
theorem dX2_init_1 : decode cX2_init 1 = .ok (.invokespecial 1, 3) := by decide +kernel
theorem dX2_init_4 : decode cX2_init 4 = .ok (.return_, 1) := by decide +kernel
theorem dX2_speedAt_0 : decode cX2_speedAt 0 = .ok (.aload_n 0, 1) := by decide +kernel
theorem dX2_speedAt_1 : decode cX2_speedAt 1 = .ok (.getfield 7, 3) := by decide +kernel
theorem dX2_speedAt_4 : decode cX2_speedAt 4 = .ok (.aload_n 0, 1) := by decide +kernel
theorem dX2_speedAt_5 : decode cX2_speedAt 5 = .ok (.getfield 13, 3) := by decide +kernel
theorem dX2_speedAt_8 : decode cX2_speedAt 8 = .ok (.dload_n 1, 1) := by decide +kernel
theorem dX2_speedAt_9 : decode cX2_speedAt 9 = .ok (.dmul, 1) := by decide +kernel
theorem dX2_speedAt_10 : decode cX2_speedAt 10 = .ok (.dadd, 1) := by decide +kernel
theorem dX2_speedAt_11 : decode cX2_speedAt 11 = .ok (.dreturn, 1) := by decide +kernel
theorem dX3_init_0 : decode cX3_init 0 = .ok (.aload_n 0, 1) := by decide +kernel
theorem dX3_init_1 : decode cX3_init 1 = .ok (.invokespecial 1, 3) := by decide +kernel
theorem dX3_init_4 : decode cX3_init 4 = .ok (.return_, 1) := by decide +kernel
theorem dX3_take_0 : decode cX3_take 0 = .ok (.aload_n 0, 1) := by decide +kernel
theorem dX3_take_1 : decode cX3_take 1 = .ok (.aload_n 0, 1) := by decide +kernel
theorem dX3_take_2 : decode cX3_take 2 = .ok (.getfield 7, 3) := by decide +kernel
theorem dX3_take_5 : decode cX3_take 5 = .ok (.dload_n 1, 1) := by decide +kernel
theorem dX3_take_6 : decode cX3_take 6 = .ok (.dadd, 1) := by decide +kernel
theorem dX3_take_7 : decode cX3_take 7 = .ok (.putfield 7, 3) := by decide +kernel
theorem dX3_take_10 : decode cX3_take 10 = .ok (.aload_n 0, 1) := by decide +kernel
theorem dX3_take_11 : decode cX3_take 11 = .ok (.getfield 7, 3) := by decide +kernel
theorem dX3_take_14 : decode cX3_take 14 = .ok (.d2l, 1) := by decide +kernel
theorem dX3_take_15 : decode cX3_take 15 = .ok (.lstore_n 3, 1) := by decide +kernel
theorem dX3_take_16 : decode cX3_take 16 = .ok (.aload_n 0, 1) := by decide +kernel
theorem dX3_take_17 : decode cX3_take 17 = .ok (.aload_n 0, 1) := by decide +kernel
theorem dX3_take_18 : decode cX3_take 18 = .ok (.getfield 7, 3) := by decide +kernel
theorem dX3_take_21 : decode cX3_take 21 = .ok (.lload_n 3, 1) := by decide +kernel
theorem dX3_take_22 : decode cX3_take 22 = .ok (.l2d, 1) := by decide +kernel
theorem dX3_take_23 : decode cX3_take 23 = .ok (.dsub, 1) := by decide +kernel
theorem dX3_take_24 : decode cX3_take 24 = .ok (.putfield 7, 3) := by decide +kernel
theorem dX3_take_27 : decode cX3_take 27 = .ok (.aload_n 0, 1) := by decide +kernel
theorem dX3_take_28 : decode cX3_take 28 = .ok (.aload_n 0, 1) := by decide +kernel
theorem dX3_take_29 : decode cX3_take 29 = .ok (.getfield 13, 3) := by decide +kernel
theorem dX3_take_32 : decode cX3_take 32 = .ok (.lload_n 3, 1) := by decide +kernel
theorem dX3_take_33 : decode cX3_take 33 = .ok (.ladd, 1) := by decide +kernel
theorem dX3_take_34 : decode cX3_take 34 = .ok (.putfield 13, 3) := by decide +kernel
theorem dX3_take_37 : decode cX3_take 37 = .ok (.return_, 1) := by decide +kernel
theorem dX4_init_0 : decode cX4_init 0 = .ok (.aload_n 0, 1) := by decide +kernel
theorem dX4_init_1 : decode cX4_init 1 = .ok (.invokespecial 3, 3) := by decide +kernel
theorem dX4_init_4 : decode cX4_init 4 = .ok (.aload_n 0, 1) := by decide +kernel
theorem dX4_init_5 : decode cX4_init 5 = .ok (.bipush 12, 2) := by decide +kernel
theorem dX4_init_7 : decode cX4_init 7 = .ok (.newarray .boolean, 2) := by decide +kernel
theorem dX4_init_9 : decode cX4_init 9 = .ok (.putfield 11, 3) := by decide +kernel
theorem dX4_init_12 : decode cX4_init 12 = .ok (.aload_n 0, 1) := by decide +kernel
theorem dX4_init_13 : decode cX4_init 13 = .ok (.bipush 12, 2) := by decide +kernel
theorem dX4_init_15 : decode cX4_init 15 = .ok (.newarray .int, 2) := by decide +kernel
theorem dX4_init_17 : decode cX4_init 17 = .ok (.putfield 15, 3) := by decide +kernel
theorem dX4_init_20 : decode cX4_init 20 = .ok (.aload_n 0, 1) := by decide +kernel
theorem dX4_init_21 : decode cX4_init 21 = .ok (.bipush 12, 2) := by decide +kernel
theorem dX4_init_23 : decode cX4_init 23 = .ok (.newarray .int, 2) := by decide +kernel
theorem dX4_init_25 : decode cX4_init 25 = .ok (.putfield 19, 3) := by decide +kernel
theorem dX4_init_28 : decode cX4_init 28 = .ok (.aload_n 0, 1) := by decide +kernel
theorem dX4_init_29 : decode cX4_init 29 = .ok (.bipush 12, 2) := by decide +kernel
theorem dX4_init_31 : decode cX4_init 31 = .ok (.newarray .int, 2) := by decide +kernel
theorem dX4_init_33 : decode cX4_init 33 = .ok (.putfield 22, 3) := by decide +kernel
theorem dX4_init_36 : decode cX4_init 36 = .ok (.return_, 1) := by decide +kernel
theorem dX4_readFrom_0 : decode cX4_readFrom 0 = .ok (.aload_n 0, 1) := by decide +kernel
theorem dX4_readFrom_1 : decode cX4_readFrom 1 = .ok (.aload_n 1, 1) := by decide +kernel
theorem dX4_readFrom_2 : decode cX4_readFrom 2 = .ok (.invokevirtual 25, 3) := by decide +kernel
theorem dX4_readFrom_5 : decode cX4_readFrom 5 = .ok (.istore_n 2, 1) := by decide +kernel
theorem dX4_readFrom_6 : decode cX4_readFrom 6 = .ok (.iload_n 2, 1) := by decide +kernel
theorem dX4_readFrom_7 : decode cX4_readFrom 7 = .ok (.iconst (-1), 1) := by decide +kernel
theorem dX4_readFrom_8 : decode cX4_readFrom 8 = .ok (.if_icmp .ne 12, 3) := by decide +kernel
theorem dX4_readFrom_11 : decode cX4_readFrom 11 = .ok (.iconst (-1), 1) := by decide +kernel
theorem dX4_readFrom_12 : decode cX4_readFrom 12 = .ok (.aload_n 1, 1) := by decide +kernel
theorem dX4_readFrom_13 : decode cX4_readFrom 13 = .ok (.getfield 29, 3) := by decide +kernel
theorem dX4_readFrom_16 : decode cX4_readFrom 16 = .ok (.isub, 1) := by decide +kernel
theorem dX4_readFrom_17 : decode cX4_readFrom 17 = .ok (.goto 4, 3) := by decide +kernel
theorem dX4_readFrom_20 : decode cX4_readFrom 20 = .ok (.iload_n 2, 1) := by decide +kernel
theorem dX4_readFrom_21 : decode cX4_readFrom 21 = .ok (.istore_n 3, 1) := by decide +kernel
theorem dX4_readFrom_22 : decode cX4_readFrom 22 = .ok (.aload_n 0, 1) := by decide +kernel
theorem dX4_readFrom_23 : decode cX4_readFrom 23 = .ok (.iload_n 2, 1) := by decide +kernel
theorem dX4_readFrom_24 : decode cX4_readFrom 24 = .ok (.iconst (-1), 1) := by decide +kernel
theorem dX4_readFrom_25 : decode cX4_readFrom 25 = .ok (.if_icmp .ne 7, 3) := by decide +kernel
theorem dX4_readFrom_28 : decode cX4_readFrom 28 = .ok (.iconst 0, 1) := by decide +kernel
theorem dX4_readFrom_29 : decode cX4_readFrom 29 = .ok (.goto 4, 3) := by decide +kernel
theorem dX4_readFrom_32 : decode cX4_readFrom 32 = .ok (.iload_n 2, 1) := by decide +kernel
theorem dX4_readFrom_33 : decode cX4_readFrom 33 = .ok (.putfield 35, 3) := by decide +kernel
theorem dX4_readFrom_36 : decode cX4_readFrom 36 = .ok (.aload_n 0, 1) := by decide +kernel
theorem dX4_readFrom_37 : decode cX4_readFrom 37 = .ok (.iconst 0, 1) := by decide +kernel
theorem dX4_readFrom_38 : decode cX4_readFrom 38 = .ok (.putfield 38, 3) := by decide +kernel
theorem dX4_readFrom_41 : decode cX4_readFrom 41 = .ok (.aload_n 1, 1) := by decide +kernel
theorem dX4_readFrom_42 : decode cX4_readFrom 42 = .ok (.invokevirtual 41, 3) := by decide +kernel
theorem dX4_readFrom_45 : decode cX4_readFrom 45 = .ok (.iload_n 3, 1) := by decide +kernel
theorem dX4_readFrom_46 : decode cX4_readFrom 46 = .ok (.ireturn, 1) := by decide +kernel
theorem dX4_readSteps_0 : decode cX4_readSteps 0 = .ok (.iconst 0, 1) := by decide +kernel
theorem dX4_readSteps_1 : decode cX4_readSteps 1 = .ok (.istore_n 2, 1) := by decide +kernel
theorem dX4_readSteps_2 : decode cX4_readSteps 2 = .ok (.iload_n 2, 1) := by decide +kernel
theorem dX4_readSteps_3 : decode cX4_readSteps 3 = .ok (.bipush 12, 2) := by decide +kernel
theorem dX4_readSteps_5 : decode cX4_readSteps 5 = .ok (.if_icmp .ge 46, 3) := by decide +kernel
theorem dX4_readSteps_8 : decode cX4_readSteps 8 = .ok (.iload_n 2, 1) := by decide +kernel
theorem dX4_readSteps_9 : decode cX4_readSteps 9 = .ok (.ifCond .le 14, 3) := by decide +kernel
theorem dX4_readSteps_12 : decode cX4_readSteps 12 = .ok (.aload_n 1, 1) := by decide +kernel
theorem dX4_readSteps_13 : decode cX4_readSteps 13 = .ok (.bipush 59, 2) := by decide +kernel
theorem dX4_readSteps_15 : decode cX4_readSteps 15 = .ok (.invokevirtual 44, 3) := by decide +kernel
theorem dX4_readSteps_18 : decode cX4_readSteps 18 = .ok (.ifCond .ne 5, 3) := by decide +kernel
theorem dX4_readSteps_21 : decode cX4_readSteps 21 = .ok (.iconst (-1), 1) := by decide +kernel
theorem dX4_readSteps_22 : decode cX4_readSteps 22 = .ok (.ireturn, 1) := by decide +kernel
theorem dX4_readSteps_23 : decode cX4_readSteps 23 = .ok (.aload_n 0, 1) := by decide +kernel
theorem dX4_readSteps_24 : decode cX4_readSteps 24 = .ok (.aload_n 1, 1) := by decide +kernel
theorem dX4_readSteps_25 : decode cX4_readSteps 25 = .ok (.iload_n 2, 1) := by decide +kernel
theorem dX4_readSteps_26 : decode cX4_readSteps 26 = .ok (.invokevirtual 48, 3) := by decide +kernel
theorem dX4_readSteps_29 : decode cX4_readSteps 29 = .ok (.ifCond .ne 5, 3) := by decide +kernel
theorem dX4_readSteps_32 : decode cX4_readSteps 32 = .ok (.iconst (-1), 1) := by decide +kernel
theorem dX4_readSteps_33 : decode cX4_readSteps 33 = .ok (.ireturn, 1) := by decide +kernel
theorem dX4_readSteps_34 : decode cX4_readSteps 34 = .ok (.aload_n 1, 1) := by decide +kernel
theorem dX4_readSteps_35 : decode cX4_readSteps 35 = .ok (.invokevirtual 52, 3) := by decide +kernel
theorem dX4_readSteps_38 : decode cX4_readSteps 38 = .ok (.ifCond .eq 7, 3) := by decide +kernel
theorem dX4_readSteps_41 : decode cX4_readSteps 41 = .ok (.iload_n 2, 1) := by decide +kernel
theorem dX4_readSteps_42 : decode cX4_readSteps 42 = .ok (.iconst 1, 1) := by decide +kernel
theorem dX4_readSteps_43 : decode cX4_readSteps 43 = .ok (.iadd, 1) := by decide +kernel
theorem dX4_readSteps_44 : decode cX4_readSteps 44 = .ok (.ireturn, 1) := by decide +kernel
theorem dX4_readSteps_45 : decode cX4_readSteps 45 = .ok (.iinc 2 1, 3) := by decide +kernel
theorem dX4_readSteps_48 : decode cX4_readSteps 48 = .ok (.goto (-46), 3) := by decide +kernel
theorem dX4_readSteps_51 : decode cX4_readSteps 51 = .ok (.iconst (-1), 1) := by decide +kernel
theorem dX4_readSteps_52 : decode cX4_readSteps 52 = .ok (.ireturn, 1) := by decide +kernel
theorem dX4_readStep_0 : decode cX4_readStep 0 = .ok (.aload_n 0, 1) := by decide +kernel
theorem dX4_readStep_1 : decode cX4_readStep 1 = .ok (.getfield 11, 3) := by decide +kernel
theorem dX4_readStep_4 : decode cX4_readStep 4 = .ok (.iload_n 2, 1) := by decide +kernel
theorem dX4_readStep_5 : decode cX4_readStep 5 = .ok (.aload_n 1, 1) := by decide +kernel
theorem dX4_readStep_6 : decode cX4_readStep 6 = .ok (.invokevirtual 56, 3) := by decide +kernel
theorem dX4_readStep_9 : decode cX4_readStep 9 = .ok (.bipush 104, 2) := by decide +kernel
theorem dX4_readStep_11 : decode cX4_readStep 11 = .ok (.if_icmp .ne 7, 3) := by decide +kernel
theorem dX4_readStep_14 : decode cX4_readStep 14 = .ok (.iconst 1, 1) := by decide +kernel
theorem dX4_readStep_15 : decode cX4_readStep 15 = .ok (.goto 4, 3) := by decide +kernel
theorem dX4_readStep_18 : decode cX4_readStep 18 = .ok (.iconst 0, 1) := by decide +kernel
theorem dX4_readStep_19 : decode cX4_readStep 19 = .ok (.bastore, 1) := by decide +kernel
theorem dX4_readStep_20 : decode cX4_readStep 20 = .ok (.aload_n 1, 1) := by decide +kernel
theorem dX4_readStep_21 : decode cX4_readStep 21 = .ok (.aload_n 0, 1) := by decide +kernel
theorem dX4_readStep_22 : decode cX4_readStep 22 = .ok (.getfield 11, 3) := by decide +kernel
theorem dX4_readStep_25 : decode cX4_readStep 25 = .ok (.iload_n 2, 1) := by decide +kernel
theorem dX4_readStep_26 : decode cX4_readStep 26 = .ok (.baload, 1) := by decide +kernel
theorem dX4_readStep_27 : decode cX4_readStep 27 = .ok (.ifCond .eq 8, 3) := by decide +kernel
theorem dX4_readStep_30 : decode cX4_readStep 30 = .ok (.bipush 104, 2) := by decide +kernel
theorem dX4_readStep_32 : decode cX4_readStep 32 = .ok (.goto 5, 3) := by decide +kernel
theorem dX4_readStep_35 : decode cX4_readStep 35 = .ok (.bipush 119, 2) := by decide +kernel
theorem dX4_readStep_37 : decode cX4_readStep 37 = .ok (.invokevirtual 44, 3) := by decide +kernel
theorem dX4_readStep_40 : decode cX4_readStep 40 = .ok (.ifCond .ne 5, 3) := by decide +kernel
theorem dX4_readStep_43 : decode cX4_readStep 43 = .ok (.iconst 0, 1) := by decide +kernel
theorem dX4_readStep_44 : decode cX4_readStep 44 = .ok (.ireturn, 1) := by decide +kernel
theorem dX4_readStep_45 : decode cX4_readStep 45 = .ok (.aload_n 0, 1) := by decide +kernel
theorem dX4_readStep_46 : decode cX4_readStep 46 = .ok (.getfield 15, 3) := by decide +kernel
theorem dX4_readStep_49 : decode cX4_readStep 49 = .ok (.iload_n 2, 1) := by decide +kernel
theorem dX4_readStep_50 : decode cX4_readStep 50 = .ok (.aload_n 1, 1) := by decide +kernel
theorem dX4_readStep_51 : decode cX4_readStep 51 = .ok (.iconst 0, 1) := by decide +kernel
theorem dX4_readStep_52 : decode cX4_readStep 52 = .ok (.sipush 999, 3) := by decide +kernel
theorem dX4_readStep_55 : decode cX4_readStep 55 = .ok (.invokevirtual 60, 3) := by decide +kernel
theorem dX4_readStep_58 : decode cX4_readStep 58 = .ok (.iastore, 1) := by decide +kernel
theorem dX4_readStep_59 : decode cX4_readStep 59 = .ok (.aload_n 0, 1) := by decide +kernel
theorem dX4_readStep_60 : decode cX4_readStep 60 = .ok (.getfield 15, 3) := by decide +kernel
theorem dX4_readStep_63 : decode cX4_readStep 63 = .ok (.iload_n 2, 1) := by decide +kernel
theorem dX4_readStep_64 : decode cX4_readStep 64 = .ok (.iaload, 1) := by decide +kernel
theorem dX4_readStep_65 : decode cX4_readStep 65 = .ok (.iconst (-1), 1) := by decide +kernel
theorem dX4_readStep_66 : decode cX4_readStep 66 = .ok (.if_icmp .eq 12, 3) := by decide +kernel
theorem dX4_readStep_69 : decode cX4_readStep 69 = .ok (.aload_n 1, 1) := by decide +kernel
theorem dX4_readStep_70 : decode cX4_readStep 70 = .ok (.bipush 58, 2) := by decide +kernel
theorem dX4_readStep_72 : decode cX4_readStep 72 = .ok (.invokevirtual 44, 3) := by decide +kernel
theorem dX4_readStep_75 : decode cX4_readStep 75 = .ok (.ifCond .ne 5, 3) := by decide +kernel
theorem dX4_readStep_78 : decode cX4_readStep 78 = .ok (.iconst 0, 1) := by decide +kernel
theorem dX4_readStep_79 : decode cX4_readStep 79 = .ok (.ireturn, 1) := by decide +kernel
theorem dX4_readStep_80 : decode cX4_readStep 80 = .ok (.aload_n 0, 1) := by decide +kernel
theorem dX4_readStep_81 : decode cX4_readStep 81 = .ok (.getfield 19, 3) := by decide +kernel
theorem dX4_readStep_84 : decode cX4_readStep 84 = .ok (.iload_n 2, 1) := by decide +kernel
theorem dX4_readStep_85 : decode cX4_readStep 85 = .ok (.aload_n 1, 1) := by decide +kernel
theorem dX4_readStep_86 : decode cX4_readStep 86 = .ok (.sipush 250, 3) := by decide +kernel
theorem dX4_readStep_89 : decode cX4_readStep 89 = .ok (.sipush 400, 3) := by decide +kernel
theorem dX4_readStep_92 : decode cX4_readStep 92 = .ok (.invokevirtual 60, 3) := by decide +kernel
theorem dX4_readStep_95 : decode cX4_readStep 95 = .ok (.iastore, 1) := by decide +kernel
theorem dX4_readStep_96 : decode cX4_readStep 96 = .ok (.aload_n 0, 1) := by decide +kernel
theorem dX4_readStep_97 : decode cX4_readStep 97 = .ok (.getfield 19, 3) := by decide +kernel
theorem dX4_readStep_100 : decode cX4_readStep 100 = .ok (.iload_n 2, 1) := by decide +kernel
theorem dX4_readStep_101 : decode cX4_readStep 101 = .ok (.iaload, 1) := by decide +kernel
theorem dX4_readStep_102 : decode cX4_readStep 102 = .ok (.iconst (-1), 1) := by decide +kernel
theorem dX4_readStep_103 : decode cX4_readStep 103 = .ok (.if_icmp .eq 12, 3) := by decide +kernel
theorem dX4_readStep_106 : decode cX4_readStep 106 = .ok (.aload_n 1, 1) := by decide +kernel
theorem dX4_readStep_107 : decode cX4_readStep 107 = .ok (.bipush 44, 2) := by decide +kernel
theorem dX4_readStep_109 : decode cX4_readStep 109 = .ok (.invokevirtual 44, 3) := by decide +kernel
theorem dX4_readStep_112 : decode cX4_readStep 112 = .ok (.ifCond .ne 5, 3) := by decide +kernel
theorem dX4_readStep_115 : decode cX4_readStep 115 = .ok (.iconst 0, 1) := by decide +kernel
theorem dX4_readStep_116 : decode cX4_readStep 116 = .ok (.ireturn, 1) := by decide +kernel
theorem dX4_readStep_117 : decode cX4_readStep 117 = .ok (.aload_n 0, 1) := by decide +kernel
theorem dX4_readStep_118 : decode cX4_readStep 118 = .ok (.getfield 22, 3) := by decide +kernel
theorem dX4_readStep_121 : decode cX4_readStep 121 = .ok (.iload_n 2, 1) := by decide +kernel
theorem dX4_readStep_122 : decode cX4_readStep 122 = .ok (.aload_n 1, 1) := by decide +kernel
theorem dX4_readStep_123 : decode cX4_readStep 123 = .ok (.iconst 0, 1) := by decide +kernel
theorem dX4_readStep_124 : decode cX4_readStep 124 = .ok (.bipush 100, 2) := by decide +kernel
theorem dX4_readStep_126 : decode cX4_readStep 126 = .ok (.invokevirtual 60, 3) := by decide +kernel
theorem dX4_readStep_129 : decode cX4_readStep 129 = .ok (.iastore, 1) := by decide +kernel
theorem dX4_readStep_130 : decode cX4_readStep 130 = .ok (.aload_n 0, 1) := by decide +kernel
theorem dX4_readStep_131 : decode cX4_readStep 131 = .ok (.getfield 22, 3) := by decide +kernel
theorem dX4_readStep_134 : decode cX4_readStep 134 = .ok (.iload_n 2, 1) := by decide +kernel
theorem dX4_readStep_135 : decode cX4_readStep 135 = .ok (.iaload, 1) := by decide +kernel
theorem dX4_readStep_136 : decode cX4_readStep 136 = .ok (.iconst (-1), 1) := by decide +kernel
theorem dX4_readStep_137 : decode cX4_readStep 137 = .ok (.if_icmp .eq 7, 3) := by decide +kernel
theorem dX4_readStep_140 : decode cX4_readStep 140 = .ok (.iconst 1, 1) := by decide +kernel
theorem dX4_readStep_141 : decode cX4_readStep 141 = .ok (.goto 4, 3) := by decide +kernel
theorem dX4_readStep_144 : decode cX4_readStep 144 = .ok (.iconst 0, 1) := by decide +kernel
theorem dX4_readStep_145 : decode cX4_readStep 145 = .ok (.ireturn, 1) := by decide +kernel
theorem dX5_init_0 : decode cX5_init 0 = .ok (.aload_n 0, 1) := by decide +kernel
theorem dX5_init_1 : decode cX5_init 1 = .ok (.invokespecial 3, 3) := by decide +kernel
theorem dX5_init_4 : decode cX5_init 4 = .ok (.aload_n 0, 1) := by decide +kernel
theorem dX5_init_5 : decode cX5_init 5 = .ok (.sipush 200, 3) := by decide +kernel
theorem dX5_init_8 : decode cX5_init 8 = .ok (.newarray .char, 2) := by decide +kernel
theorem dX5_init_10 : decode cX5_init 10 = .ok (.putfield 11, 3) := by decide +kernel
theorem dX5_init_13 : decode cX5_init 13 = .ok (.return_, 1) := by decide +kernel
theorem dX5_append_0 : decode cX5_append 0 = .ok (.aload_n 0, 1) := by decide +kernel
theorem dX5_append_1 : decode cX5_append 1 = .ok (.getfield 15, 3) := by decide +kernel
theorem dX5_append_4 : decode cX5_append 4 = .ok (.aload_n 0, 1) := by decide +kernel
theorem dX5_append_5 : decode cX5_append 5 = .ok (.getfield 11, 3) := by decide +kernel
theorem dX5_append_8 : decode cX5_append 8 = .ok (.arraylength, 1) := by decide +kernel
theorem dX5_append_9 : decode cX5_append 9 = .ok (.if_icmp .ge 15, 3) := by decide +kernel
theorem dX5_append_12 : decode cX5_append 12 = .ok (.iload_n 1, 1) := by decide +kernel
theorem dX5_append_13 : decode cX5_append 13 = .ok (.bipush 32, 2) := by decide +kernel
theorem dX5_append_15 : decode cX5_append 15 = .ok (.if_icmp .lt 9, 3) := by decide +kernel
theorem dX5_append_18 : decode cX5_append 18 = .ok (.iload_n 1, 1) := by decide +kernel
theorem dX5_append_19 : decode cX5_append 19 = .ok (.bipush 126, 2) := by decide +kernel
theorem dX5_append_21 : decode cX5_append 21 = .ok (.if_icmp .le 5, 3) := by decide +kernel
theorem dX5_append_24 : decode cX5_append 24 = .ok (.iconst 0, 1) := by decide +kernel
theorem dX5_append_25 : decode cX5_append 25 = .ok (.ireturn, 1) := by decide +kernel
theorem dX5_append_26 : decode cX5_append 26 = .ok (.aload_n 0, 1) := by decide +kernel
theorem dX5_append_27 : decode cX5_append 27 = .ok (.getfield 11, 3) := by decide +kernel
theorem dX5_append_30 : decode cX5_append 30 = .ok (.aload_n 0, 1) := by decide +kernel
theorem dX5_append_31 : decode cX5_append 31 = .ok (.getfield 15, 3) := by decide +kernel
theorem dX5_append_34 : decode cX5_append 34 = .ok (.iload_n 1, 1) := by decide +kernel
theorem dX5_append_35 : decode cX5_append 35 = .ok (.i2c, 1) := by decide +kernel
theorem dX5_append_36 : decode cX5_append 36 = .ok (.castore, 1) := by decide +kernel
theorem dX5_append_37 : decode cX5_append 37 = .ok (.aload_n 0, 1) := by decide +kernel
theorem dX5_append_38 : decode cX5_append 38 = .ok (.dup, 1) := by decide +kernel
theorem dX5_append_39 : decode cX5_append 39 = .ok (.getfield 15, 3) := by decide +kernel
theorem dX5_append_42 : decode cX5_append 42 = .ok (.iconst 1, 1) := by decide +kernel
theorem dX5_append_43 : decode cX5_append 43 = .ok (.iadd, 1) := by decide +kernel
theorem dX5_append_44 : decode cX5_append 44 = .ok (.putfield 15, 3) := by decide +kernel
theorem dX5_append_47 : decode cX5_append 47 = .ok (.iconst 1, 1) := by decide +kernel
theorem dX5_append_48 : decode cX5_append 48 = .ok (.ireturn, 1) := by decide +kernel
theorem dX5_empty_0 : decode cX5_empty 0 = .ok (.aload_n 0, 1) := by decide +kernel
theorem dX5_empty_1 : decode cX5_empty 1 = .ok (.iconst 0, 1) := by decide +kernel
theorem dX5_empty_2 : decode cX5_empty 2 = .ok (.putfield 15, 3) := by decide +kernel
theorem dX5_empty_5 : decode cX5_empty 5 = .ok (.aload_n 0, 1) := by decide +kernel
theorem dX5_empty_6 : decode cX5_empty 6 = .ok (.iconst 0, 1) := by decide +kernel
theorem dX5_empty_7 : decode cX5_empty 7 = .ok (.putfield 19, 3) := by decide +kernel
theorem dX5_empty_10 : decode cX5_empty 10 = .ok (.return_, 1) := by decide +kernel
theorem dX5_isAtEnd_0 : decode cX5_isAtEnd 0 = .ok (.aload_n 0, 1) := by decide +kernel
theorem dX5_isAtEnd_1 : decode cX5_isAtEnd 1 = .ok (.getfield 19, 3) := by decide +kernel
theorem dX5_isAtEnd_4 : decode cX5_isAtEnd 4 = .ok (.aload_n 0, 1) := by decide +kernel
theorem dX5_isAtEnd_5 : decode cX5_isAtEnd 5 = .ok (.getfield 15, 3) := by decide +kernel
theorem dX5_isAtEnd_8 : decode cX5_isAtEnd 8 = .ok (.if_icmp .lt 7, 3) := by decide +kernel
theorem dX5_isAtEnd_11 : decode cX5_isAtEnd 11 = .ok (.iconst 1, 1) := by decide +kernel
theorem dX5_isAtEnd_12 : decode cX5_isAtEnd 12 = .ok (.goto 4, 3) := by decide +kernel
theorem dX5_isAtEnd_15 : decode cX5_isAtEnd 15 = .ok (.iconst 0, 1) := by decide +kernel
theorem dX5_isAtEnd_16 : decode cX5_isAtEnd 16 = .ok (.ireturn, 1) := by decide +kernel
theorem dX5_next_0 : decode cX5_next 0 = .ok (.aload_n 0, 1) := by decide +kernel
theorem dX5_next_1 : decode cX5_next 1 = .ok (.invokevirtual 22, 3) := by decide +kernel
theorem dX5_next_4 : decode cX5_next 4 = .ok (.ifCond .eq 7, 3) := by decide +kernel
theorem dX5_next_7 : decode cX5_next 7 = .ok (.iconst 0, 1) := by decide +kernel
theorem dX5_next_8 : decode cX5_next 8 = .ok (.goto 12, 3) := by decide +kernel
theorem dX5_next_11 : decode cX5_next 11 = .ok (.aload_n 0, 1) := by decide +kernel
theorem dX5_next_12 : decode cX5_next 12 = .ok (.getfield 11, 3) := by decide +kernel
theorem dX5_next_15 : decode cX5_next 15 = .ok (.aload_n 0, 1) := by decide +kernel
theorem dX5_next_16 : decode cX5_next 16 = .ok (.getfield 19, 3) := by decide +kernel
theorem dX5_next_19 : decode cX5_next 19 = .ok (.caload, 1) := by decide +kernel
theorem dX5_next_20 : decode cX5_next 20 = .ok (.ireturn, 1) := by decide +kernel
theorem dX5_isAtDigit_0 : decode cX5_isAtDigit 0 = .ok (.aload_n 0, 1) := by decide +kernel
theorem dX5_isAtDigit_1 : decode cX5_isAtDigit 1 = .ok (.invokevirtual 26, 3) := by decide +kernel
theorem dX5_isAtDigit_4 : decode cX5_isAtDigit 4 = .ok (.bipush 48, 2) := by decide +kernel
theorem dX5_isAtDigit_6 : decode cX5_isAtDigit 6 = .ok (.if_icmp .lt 16, 3) := by decide +kernel
theorem dX5_isAtDigit_9 : decode cX5_isAtDigit 9 = .ok (.aload_n 0, 1) := by decide +kernel
theorem dX5_isAtDigit_10 : decode cX5_isAtDigit 10 = .ok (.invokevirtual 26, 3) := by decide +kernel
theorem dX5_isAtDigit_13 : decode cX5_isAtDigit 13 = .ok (.bipush 57, 2) := by decide +kernel
theorem dX5_isAtDigit_15 : decode cX5_isAtDigit 15 = .ok (.if_icmp .gt 7, 3) := by decide +kernel
theorem dX5_isAtDigit_18 : decode cX5_isAtDigit 18 = .ok (.iconst 1, 1) := by decide +kernel
theorem dX5_isAtDigit_19 : decode cX5_isAtDigit 19 = .ok (.goto 4, 3) := by decide +kernel
theorem dX5_isAtDigit_22 : decode cX5_isAtDigit 22 = .ok (.iconst 0, 1) := by decide +kernel
theorem dX5_isAtDigit_23 : decode cX5_isAtDigit 23 = .ok (.ireturn, 1) := by decide +kernel
theorem dX5_pass_0 : decode cX5_pass 0 = .ok (.aload_n 0, 1) := by decide +kernel
theorem dX5_pass_1 : decode cX5_pass 1 = .ok (.invokevirtual 26, 3) := by decide +kernel
theorem dX5_pass_4 : decode cX5_pass 4 = .ok (.iload_n 1, 1) := by decide +kernel
theorem dX5_pass_5 : decode cX5_pass 5 = .ok (.if_icmp .eq 5, 3) := by decide +kernel
theorem dX5_pass_8 : decode cX5_pass 8 = .ok (.iconst 0, 1) := by decide +kernel
theorem dX5_pass_9 : decode cX5_pass 9 = .ok (.ireturn, 1) := by decide +kernel
theorem dX5_pass_10 : decode cX5_pass 10 = .ok (.aload_n 0, 1) := by decide +kernel
theorem dX5_pass_11 : decode cX5_pass 11 = .ok (.dup, 1) := by decide +kernel
theorem dX5_pass_12 : decode cX5_pass 12 = .ok (.getfield 19, 3) := by decide +kernel
theorem dX5_pass_15 : decode cX5_pass 15 = .ok (.iconst 1, 1) := by decide +kernel
theorem dX5_pass_16 : decode cX5_pass 16 = .ok (.iadd, 1) := by decide +kernel
theorem dX5_pass_17 : decode cX5_pass 17 = .ok (.putfield 19, 3) := by decide +kernel
theorem dX5_pass_20 : decode cX5_pass 20 = .ok (.iconst 1, 1) := by decide +kernel
theorem dX5_pass_21 : decode cX5_pass 21 = .ok (.ireturn, 1) := by decide +kernel
theorem dX5_readNumber_0 : decode cX5_readNumber 0 = .ok (.aload_n 0, 1) := by decide +kernel
theorem dX5_readNumber_1 : decode cX5_readNumber 1 = .ok (.getfield 19, 3) := by decide +kernel
theorem dX5_readNumber_4 : decode cX5_readNumber 4 = .ok (.istore_n 3, 1) := by decide +kernel
theorem dX5_readNumber_5 : decode cX5_readNumber 5 = .ok (.iconst 0, 1) := by decide +kernel
theorem dX5_readNumber_6 : decode cX5_readNumber 6 = .ok (.istore 4, 2) := by decide +kernel
theorem dX5_readNumber_8 : decode cX5_readNumber 8 = .ok (.iconst 0, 1) := by decide +kernel
theorem dX5_readNumber_9 : decode cX5_readNumber 9 = .ok (.istore 5, 2) := by decide +kernel
theorem dX5_readNumber_11 : decode cX5_readNumber 11 = .ok (.iload 5, 2) := by decide +kernel
theorem dX5_readNumber_13 : decode cX5_readNumber 13 = .ok (.iconst 3, 1) := by decide +kernel
theorem dX5_readNumber_14 : decode cX5_readNumber 14 = .ok (.if_icmp .ge 41, 3) := by decide +kernel
theorem dX5_readNumber_17 : decode cX5_readNumber 17 = .ok (.aload_n 0, 1) := by decide +kernel
theorem dX5_readNumber_18 : decode cX5_readNumber 18 = .ok (.invokevirtual 30, 3) := by decide +kernel
theorem dX5_readNumber_21 : decode cX5_readNumber 21 = .ok (.ifCond .eq 34, 3) := by decide +kernel
theorem dX5_readNumber_24 : decode cX5_readNumber 24 = .ok (.iload 4, 2) := by decide +kernel
theorem dX5_readNumber_26 : decode cX5_readNumber 26 = .ok (.bipush 10, 2) := by decide +kernel
theorem dX5_readNumber_28 : decode cX5_readNumber 28 = .ok (.imul, 1) := by decide +kernel
theorem dX5_readNumber_29 : decode cX5_readNumber 29 = .ok (.aload_n 0, 1) := by decide +kernel
theorem dX5_readNumber_30 : decode cX5_readNumber 30 = .ok (.invokevirtual 26, 3) := by decide +kernel
theorem dX5_readNumber_33 : decode cX5_readNumber 33 = .ok (.bipush 48, 2) := by decide +kernel
theorem dX5_readNumber_35 : decode cX5_readNumber 35 = .ok (.isub, 1) := by decide +kernel
theorem dX5_readNumber_36 : decode cX5_readNumber 36 = .ok (.iadd, 1) := by decide +kernel
theorem dX5_readNumber_37 : decode cX5_readNumber 37 = .ok (.istore 4, 2) := by decide +kernel
theorem dX5_readNumber_39 : decode cX5_readNumber 39 = .ok (.aload_n 0, 1) := by decide +kernel
theorem dX5_readNumber_40 : decode cX5_readNumber 40 = .ok (.dup, 1) := by decide +kernel
theorem dX5_readNumber_41 : decode cX5_readNumber 41 = .ok (.getfield 19, 3) := by decide +kernel
theorem dX5_readNumber_44 : decode cX5_readNumber 44 = .ok (.iconst 1, 1) := by decide +kernel
theorem dX5_readNumber_45 : decode cX5_readNumber 45 = .ok (.iadd, 1) := by decide +kernel
theorem dX5_readNumber_46 : decode cX5_readNumber 46 = .ok (.putfield 19, 3) := by decide +kernel
theorem dX5_readNumber_49 : decode cX5_readNumber 49 = .ok (.iinc 5 1, 3) := by decide +kernel
theorem dX5_readNumber_52 : decode cX5_readNumber 52 = .ok (.goto (-41), 3) := by decide +kernel
theorem dX5_readNumber_55 : decode cX5_readNumber 55 = .ok (.aload_n 0, 1) := by decide +kernel
theorem dX5_readNumber_56 : decode cX5_readNumber 56 = .ok (.getfield 19, 3) := by decide +kernel
theorem dX5_readNumber_59 : decode cX5_readNumber 59 = .ok (.iload_n 3, 1) := by decide +kernel
theorem dX5_readNumber_60 : decode cX5_readNumber 60 = .ok (.if_icmp .ne 5, 3) := by decide +kernel
theorem dX5_readNumber_63 : decode cX5_readNumber 63 = .ok (.iconst (-1), 1) := by decide +kernel
theorem dX5_readNumber_64 : decode cX5_readNumber 64 = .ok (.ireturn, 1) := by decide +kernel
theorem dX5_readNumber_65 : decode cX5_readNumber 65 = .ok (.iload 4, 2) := by decide +kernel
theorem dX5_readNumber_67 : decode cX5_readNumber 67 = .ok (.iload_n 1, 1) := by decide +kernel
theorem dX5_readNumber_68 : decode cX5_readNumber 68 = .ok (.if_icmp .lt 9, 3) := by decide +kernel
theorem dX5_readNumber_71 : decode cX5_readNumber 71 = .ok (.iload 4, 2) := by decide +kernel
theorem dX5_readNumber_73 : decode cX5_readNumber 73 = .ok (.iload_n 2, 1) := by decide +kernel
theorem dX5_readNumber_74 : decode cX5_readNumber 74 = .ok (.if_icmp .le 10, 3) := by decide +kernel
theorem dX5_readNumber_77 : decode cX5_readNumber 77 = .ok (.aload_n 0, 1) := by decide +kernel
theorem dX5_readNumber_78 : decode cX5_readNumber 78 = .ok (.iload_n 3, 1) := by decide +kernel
theorem dX5_readNumber_79 : decode cX5_readNumber 79 = .ok (.putfield 19, 3) := by decide +kernel
theorem dX5_readNumber_82 : decode cX5_readNumber 82 = .ok (.iconst (-1), 1) := by decide +kernel
theorem dX5_readNumber_83 : decode cX5_readNumber 83 = .ok (.ireturn, 1) := by decide +kernel
theorem dX5_readNumber_84 : decode cX5_readNumber 84 = .ok (.iload 4, 2) := by decide +kernel
theorem dX5_readNumber_86 : decode cX5_readNumber 86 = .ok (.ireturn, 1) := by decide +kernel
theorem dX6_init_0 : decode cX6_init 0 = .ok (.aload_n 0, 1) := by decide +kernel
theorem dX6_init_1 : decode cX6_init 1 = .ok (.invokespecial 1, 3) := by decide +kernel
theorem dX6_init_4 : decode cX6_init 4 = .ok (.aload_n 0, 1) := by decide +kernel
theorem dX6_init_5 : decode cX6_init 5 = .ok (.iconst 1, 1) := by decide +kernel
theorem dX6_init_6 : decode cX6_init 6 = .ok (.bipush 16, 2) := by decide +kernel
theorem dX6_init_8 : decode cX6_init 8 = .ok (.iload_n 1, 1) := by decide +kernel
theorem dX6_init_9 : decode cX6_init 9 = .ok (.invokestatic 9, 3) := by decide +kernel
theorem dX6_init_12 : decode cX6_init 12 = .ok (.invokestatic 15, 3) := by decide +kernel
theorem dX6_init_15 : decode cX6_init 15 = .ok (.putfield 18, 3) := by decide +kernel
theorem dX6_init_18 : decode cX6_init 18 = .ok (.aload_n 0, 1) := by decide +kernel
theorem dX6_init_19 : decode cX6_init 19 = .ok (.iconst 4, 1) := by decide +kernel
theorem dX6_init_20 : decode cX6_init 20 = .ok (.anewarray 22, 3) := by decide +kernel
theorem dX6_init_23 : decode cX6_init 23 = .ok (.putfield 24, 3) := by decide +kernel
theorem dX6_init_26 : decode cX6_init 26 = .ok (.iconst 0, 1) := by decide +kernel
theorem dX6_init_27 : decode cX6_init 27 = .ok (.istore_n 3, 1) := by decide +kernel
theorem dX6_init_28 : decode cX6_init 28 = .ok (.iload_n 3, 1) := by decide +kernel
theorem dX6_init_29 : decode cX6_init 29 = .ok (.aload_n 0, 1) := by decide +kernel
theorem dX6_init_30 : decode cX6_init 30 = .ok (.getfield 24, 3) := by decide +kernel
theorem dX6_init_33 : decode cX6_init 33 = .ok (.arraylength, 1) := by decide +kernel
theorem dX6_init_34 : decode cX6_init 34 = .ok (.if_icmp .ge 22, 3) := by decide +kernel
theorem dX6_init_37 : decode cX6_init 37 = .ok (.aload_n 0, 1) := by decide +kernel
theorem dX6_init_38 : decode cX6_init 38 = .ok (.getfield 24, 3) := by decide +kernel
theorem dX6_init_41 : decode cX6_init 41 = .ok (.iload_n 3, 1) := by decide +kernel
theorem dX6_init_42 : decode cX6_init 42 = .ok (.new 22, 3) := by decide +kernel
theorem dX6_init_45 : decode cX6_init 45 = .ok (.dup, 1) := by decide +kernel
theorem dX6_init_46 : decode cX6_init 46 = .ok (.invokespecial 28, 3) := by decide +kernel
theorem dX6_init_49 : decode cX6_init 49 = .ok (.aastore, 1) := by decide +kernel
theorem dX6_init_50 : decode cX6_init 50 = .ok (.iinc 3 1, 3) := by decide +kernel
theorem dX6_init_53 : decode cX6_init 53 = .ok (.goto (-25), 3) := by decide +kernel
theorem dX6_init_56 : decode cX6_init 56 = .ok (.aload_n 0, 1) := by decide +kernel
theorem dX6_init_57 : decode cX6_init 57 = .ok (.iconst 1, 1) := by decide +kernel
theorem dX6_init_58 : decode cX6_init 58 = .ok (.bipush 8, 2) := by decide +kernel
theorem dX6_init_60 : decode cX6_init 60 = .ok (.iload_n 2, 1) := by decide +kernel
theorem dX6_init_61 : decode cX6_init 61 = .ok (.invokestatic 9, 3) := by decide +kernel
theorem dX6_init_64 : decode cX6_init 64 = .ok (.invokestatic 15, 3) := by decide +kernel
theorem dX6_init_67 : decode cX6_init 67 = .ok (.anewarray 29, 3) := by decide +kernel
theorem dX6_init_70 : decode cX6_init 70 = .ok (.putfield 31, 3) := by decide +kernel
theorem dX6_init_73 : decode cX6_init 73 = .ok (.iconst 0, 1) := by decide +kernel
theorem dX6_init_74 : decode cX6_init 74 = .ok (.istore_n 3, 1) := by decide +kernel
theorem dX6_init_75 : decode cX6_init 75 = .ok (.iload_n 3, 1) := by decide +kernel
theorem dX6_init_76 : decode cX6_init 76 = .ok (.aload_n 0, 1) := by decide +kernel
theorem dX6_init_77 : decode cX6_init 77 = .ok (.getfield 31, 3) := by decide +kernel
theorem dX6_init_80 : decode cX6_init 80 = .ok (.arraylength, 1) := by decide +kernel
theorem dX6_init_81 : decode cX6_init 81 = .ok (.if_icmp .ge 32, 3) := by decide +kernel
theorem dX6_init_84 : decode cX6_init 84 = .ok (.aload_n 0, 1) := by decide +kernel
theorem dX6_init_85 : decode cX6_init 85 = .ok (.getfield 31, 3) := by decide +kernel
theorem dX6_init_88 : decode cX6_init 88 = .ok (.iload_n 3, 1) := by decide +kernel
theorem dX6_init_89 : decode cX6_init 89 = .ok (.new 29, 3) := by decide +kernel
theorem dX6_init_92 : decode cX6_init 92 = .ok (.dup, 1) := by decide +kernel
theorem dX6_init_93 : decode cX6_init 93 = .ok (.aload_n 0, 1) := by decide +kernel
theorem dX6_init_94 : decode cX6_init 94 = .ok (.getfield 18, 3) := by decide +kernel
theorem dX6_init_97 : decode cX6_init 97 = .ok (.aload_n 0, 1) := by decide +kernel
theorem dX6_init_98 : decode cX6_init 98 = .ok (.getfield 24, 3) := by decide +kernel
theorem dX6_init_101 : decode cX6_init 101 = .ok (.iconst 0, 1) := by decide +kernel
theorem dX6_init_102 : decode cX6_init 102 = .ok (.aaload, 1) := by decide +kernel
theorem dX6_init_103 : decode cX6_init 103 = .ok (.invokespecial 35, 3) := by decide +kernel
theorem dX6_init_106 : decode cX6_init 106 = .ok (.aastore, 1) := by decide +kernel
theorem dX6_init_107 : decode cX6_init 107 = .ok (.iinc 3 1, 3) := by decide +kernel
theorem dX6_init_110 : decode cX6_init 110 = .ok (.goto (-35), 3) := by decide +kernel
theorem dX6_init_113 : decode cX6_init 113 = .ok (.aload_n 0, 1) := by decide +kernel
theorem dX6_init_114 : decode cX6_init 114 = .ok (.new 38, 3) := by decide +kernel
theorem dX6_init_117 : decode cX6_init 117 = .ok (.dup, 1) := by decide +kernel
theorem dX6_init_118 : decode cX6_init 118 = .ok (.invokespecial 40, 3) := by decide +kernel
theorem dX6_init_121 : decode cX6_init 121 = .ok (.putfield 41, 3) := by decide +kernel
theorem dX6_init_124 : decode cX6_init 124 = .ok (.aload_n 0, 1) := by decide +kernel
theorem dX6_init_125 : decode cX6_init 125 = .ok (.new 45, 3) := by decide +kernel
theorem dX6_init_128 : decode cX6_init 128 = .ok (.dup, 1) := by decide +kernel
theorem dX6_init_129 : decode cX6_init 129 = .ok (.invokespecial 47, 3) := by decide +kernel
theorem dX6_init_132 : decode cX6_init 132 = .ok (.putfield 48, 3) := by decide +kernel
theorem dX6_init_135 : decode cX6_init 135 = .ok (.aload_n 0, 1) := by decide +kernel
theorem dX6_init_136 : decode cX6_init 136 = .ok (.new 52, 3) := by decide +kernel
theorem dX6_init_139 : decode cX6_init 139 = .ok (.dup, 1) := by decide +kernel
theorem dX6_init_140 : decode cX6_init 140 = .ok (.invokespecial 54, 3) := by decide +kernel
theorem dX6_init_143 : decode cX6_init 143 = .ok (.putfield 55, 3) := by decide +kernel
theorem dX6_init_146 : decode cX6_init 146 = .ok (.aload_n 0, 1) := by decide +kernel
theorem dX6_init_147 : decode cX6_init 147 = .ok (.new 59, 3) := by decide +kernel
theorem dX6_init_150 : decode cX6_init 150 = .ok (.dup, 1) := by decide +kernel
theorem dX6_init_151 : decode cX6_init 151 = .ok (.invokespecial 61, 3) := by decide +kernel
theorem dX6_init_154 : decode cX6_init 154 = .ok (.putfield 62, 3) := by decide +kernel
theorem dX6_init_157 : decode cX6_init 157 = .ok (.return_, 1) := by decide +kernel
theorem dX6_board_0 : decode cX6_board 0 = .ok (.aload_n 0, 1) := by decide +kernel
theorem dX6_board_1 : decode cX6_board 1 = .ok (.iload_n 1, 1) := by decide +kernel
theorem dX6_board_2 : decode cX6_board 2 = .ok (.invokevirtual 66, 3) := by decide +kernel
theorem dX6_board_5 : decode cX6_board 5 = .ok (.astore 7, 2) := by decide +kernel
theorem dX6_board_7 : decode cX6_board 7 = .ok (.aload_n 0, 1) := by decide +kernel
theorem dX6_board_8 : decode cX6_board 8 = .ok (.iload 6, 2) := by decide +kernel
theorem dX6_board_10 : decode cX6_board 10 = .ok (.invokevirtual 70, 3) := by decide +kernel
theorem dX6_board_13 : decode cX6_board 13 = .ok (.astore 8, 2) := by decide +kernel
theorem dX6_board_15 : decode cX6_board 15 = .ok (.dload_n 2, 1) := by decide +kernel
theorem dX6_board_16 : decode cX6_board 16 = .ok (.dconst 1, 1) := by decide +kernel
theorem dX6_board_17 : decode cX6_board 17 = .ok (.ldc2_w 74, 3) := by decide +kernel
theorem dX6_board_20 : decode cX6_board 20 = .ok (.invokestatic 76, 3) := by decide +kernel
theorem dX6_board_23 : decode cX6_board 23 = .ok (.dload 4, 2) := by decide +kernel
theorem dX6_board_25 : decode cX6_board 25 = .ok (.dconst 0, 1) := by decide +kernel
theorem dX6_board_26 : decode cX6_board 26 = .ok (.ldc2_w 80, 3) := by decide +kernel
theorem dX6_board_29 : decode cX6_board 29 = .ok (.invokestatic 76, 3) := by decide +kernel
theorem dX6_board_32 : decode cX6_board 32 = .ok (.aload 7, 2) := by decide +kernel
theorem dX6_board_34 : decode cX6_board 34 = .ok (.dload_n 2, 1) := by decide +kernel
theorem dX6_board_35 : decode cX6_board 35 = .ok (.dload 4, 2) := by decide +kernel
theorem dX6_board_37 : decode cX6_board 37 = .ok (.aload 8, 2) := by decide +kernel
theorem dX6_board_39 : decode cX6_board 39 = .ok (.invokevirtual 82, 3) := by decide +kernel
theorem dX6_board_42 : decode cX6_board 42 = .ok (.return_, 1) := by decide +kernel
theorem dX6_rate_0 : decode cX6_rate 0 = .ok (.aload_n 0, 1) := by decide +kernel
theorem dX6_rate_1 : decode cX6_rate 1 = .ok (.iload_n 1, 1) := by decide +kernel
theorem dX6_rate_2 : decode cX6_rate 2 = .ok (.invokevirtual 70, 3) := by decide +kernel
theorem dX6_rate_5 : decode cX6_rate 5 = .ok (.astore 6, 2) := by decide +kernel
theorem dX6_rate_7 : decode cX6_rate 7 = .ok (.dload_n 2, 1) := by decide +kernel
theorem dX6_rate_8 : decode cX6_rate 8 = .ok (.dconst 0, 1) := by decide +kernel
theorem dX6_rate_9 : decode cX6_rate 9 = .ok (.ldc2_w 86, 3) := by decide +kernel
theorem dX6_rate_12 : decode cX6_rate 12 = .ok (.invokestatic 76, 3) := by decide +kernel
theorem dX6_rate_15 : decode cX6_rate 15 = .ok (.dload 4, 2) := by decide +kernel
theorem dX6_rate_17 : decode cX6_rate 17 = .ok (.dconst 0, 1) := by decide +kernel
theorem dX6_rate_18 : decode cX6_rate 18 = .ok (.ldc2_w 86, 3) := by decide +kernel
theorem dX6_rate_21 : decode cX6_rate 21 = .ok (.invokestatic 76, 3) := by decide +kernel
theorem dX6_rate_24 : decode cX6_rate 24 = .ok (.aload 6, 2) := by decide +kernel
theorem dX6_rate_26 : decode cX6_rate 26 = .ok (.dload_n 2, 1) := by decide +kernel
theorem dX6_rate_27 : decode cX6_rate 27 = .ok (.putfield 88, 3) := by decide +kernel
theorem dX6_rate_30 : decode cX6_rate 30 = .ok (.aload 6, 2) := by decide +kernel
theorem dX6_rate_32 : decode cX6_rate 32 = .ok (.dload 4, 2) := by decide +kernel
theorem dX6_rate_34 : decode cX6_rate 34 = .ok (.putfield 92, 3) := by decide +kernel
theorem dX6_rate_37 : decode cX6_rate 37 = .ok (.return_, 1) := by decide +kernel
theorem dX6_air_0 : decode cX6_air 0 = .ok (.dload_n 1, 1) := by decide +kernel
theorem dX6_air_1 : decode cX6_air 1 = .ok (.ldc2_w 95, 3) := by decide +kernel
theorem dX6_air_4 : decode cX6_air 4 = .ok (.ldc2_w 74, 3) := by decide +kernel
theorem dX6_air_7 : decode cX6_air 7 = .ok (.invokestatic 76, 3) := by decide +kernel
theorem dX6_air_10 : decode cX6_air 10 = .ok (.dload_n 3, 1) := by decide +kernel
theorem dX6_air_11 : decode cX6_air 11 = .ok (.dconst 0, 1) := by decide +kernel
theorem dX6_air_12 : decode cX6_air 12 = .ok (.dconst 1, 1) := by decide +kernel
theorem dX6_air_13 : decode cX6_air 13 = .ok (.invokestatic 76, 3) := by decide +kernel
theorem dX6_air_16 : decode cX6_air 16 = .ok (.dload 5, 2) := by decide +kernel
theorem dX6_air_18 : decode cX6_air 18 = .ok (.dconst 0, 1) := by decide +kernel
theorem dX6_air_19 : decode cX6_air 19 = .ok (.ldc2_w 97, 3) := by decide +kernel
theorem dX6_air_22 : decode cX6_air 22 = .ok (.invokestatic 76, 3) := by decide +kernel
theorem dX6_air_25 : decode cX6_air 25 = .ok (.aload_n 0, 1) := by decide +kernel
theorem dX6_air_26 : decode cX6_air 26 = .ok (.getfield 41, 3) := by decide +kernel
theorem dX6_air_29 : decode cX6_air 29 = .ok (.dload_n 1, 1) := by decide +kernel
theorem dX6_air_30 : decode cX6_air 30 = .ok (.putfield 99, 3) := by decide +kernel
theorem dX6_air_33 : decode cX6_air 33 = .ok (.aload_n 0, 1) := by decide +kernel
theorem dX6_air_34 : decode cX6_air 34 = .ok (.getfield 41, 3) := by decide +kernel
theorem dX6_air_37 : decode cX6_air 37 = .ok (.dload_n 3, 1) := by decide +kernel
theorem dX6_air_38 : decode cX6_air 38 = .ok (.putfield 102, 3) := by decide +kernel
theorem dX6_air_41 : decode cX6_air 41 = .ok (.aload_n 0, 1) := by decide +kernel
theorem dX6_air_42 : decode cX6_air 42 = .ok (.getfield 41, 3) := by decide +kernel
theorem dX6_air_45 : decode cX6_air 45 = .ok (.dload 5, 2) := by decide +kernel
theorem dX6_air_47 : decode cX6_air 47 = .ok (.putfield 105, 3) := by decide +kernel
theorem dX6_air_50 : decode cX6_air 50 = .ok (.return_, 1) := by decide +kernel
theorem dX6_vent_0 : decode cX6_vent 0 = .ok (.dload_n 1, 1) := by decide +kernel
theorem dX6_vent_1 : decode cX6_vent 1 = .ok (.dconst 0, 1) := by decide +kernel
theorem dX6_vent_2 : decode cX6_vent 2 = .ok (.dconst 1, 1) := by decide +kernel
theorem dX6_vent_3 : decode cX6_vent 3 = .ok (.invokestatic 76, 3) := by decide +kernel
theorem dX6_vent_6 : decode cX6_vent 6 = .ok (.aload_n 0, 1) := by decide +kernel
theorem dX6_vent_7 : decode cX6_vent 7 = .ok (.getfield 41, 3) := by decide +kernel
theorem dX6_vent_10 : decode cX6_vent 10 = .ok (.dload_n 1, 1) := by decide +kernel
theorem dX6_vent_11 : decode cX6_vent 11 = .ok (.putfield 108, 3) := by decide +kernel
theorem dX6_vent_14 : decode cX6_vent 14 = .ok (.return_, 1) := by decide +kernel
theorem dX6_soak_0 : decode cX6_soak 0 = .ok (.aload_n 0, 1) := by decide +kernel
theorem dX6_soak_1 : decode cX6_soak 1 = .ok (.iload_n 1, 1) := by decide +kernel
theorem dX6_soak_2 : decode cX6_soak 2 = .ok (.invokevirtual 66, 3) := by decide +kernel
theorem dX6_soak_5 : decode cX6_soak 5 = .ok (.astore 5, 2) := by decide +kernel
theorem dX6_soak_7 : decode cX6_soak 7 = .ok (.aload_n 0, 1) := by decide +kernel
theorem dX6_soak_8 : decode cX6_soak 8 = .ok (.iload_n 2, 1) := by decide +kernel
theorem dX6_soak_9 : decode cX6_soak 9 = .ok (.invokevirtual 111, 3) := by decide +kernel
theorem dX6_soak_12 : decode cX6_soak 12 = .ok (.dload_n 3, 1) := by decide +kernel
theorem dX6_soak_13 : decode cX6_soak 13 = .ok (.dconst 0, 1) := by decide +kernel
theorem dX6_soak_14 : decode cX6_soak 14 = .ok (.ldc2_w 80, 3) := by decide +kernel
theorem dX6_soak_17 : decode cX6_soak 17 = .ok (.invokestatic 76, 3) := by decide +kernel
theorem dX6_soak_20 : decode cX6_soak 20 = .ok (.aload 5, 2) := by decide +kernel
theorem dX6_soak_22 : decode cX6_soak 22 = .ok (.invokestatic 115, 3) := by decide +kernel
theorem dX6_soak_25 : decode cX6_soak 25 = .ok (.aload 5, 2) := by decide +kernel
theorem dX6_soak_27 : decode cX6_soak 27 = .ok (.getfield 119, 3) := by decide +kernel
theorem dX6_soak_30 : decode cX6_soak 30 = .ok (.iload_n 2, 1) := by decide +kernel
theorem dX6_soak_31 : decode cX6_soak 31 = .ok (.dload_n 3, 1) := by decide +kernel
theorem dX6_soak_32 : decode cX6_soak 32 = .ok (.dastore, 1) := by decide +kernel
theorem dX6_soak_33 : decode cX6_soak 33 = .ok (.return_, 1) := by decide +kernel
theorem dX6_unit_0 : decode cX6_unit 0 = .ok (.aload_n 0, 1) := by decide +kernel
theorem dX6_unit_1 : decode cX6_unit 1 = .ok (.getfield 55, 3) := by decide +kernel
theorem dX6_unit_4 : decode cX6_unit 4 = .ok (.iload_n 1, 1) := by decide +kernel
theorem dX6_unit_5 : decode cX6_unit 5 = .ok (.invokevirtual 123, 3) := by decide +kernel
theorem dX6_unit_8 : decode cX6_unit 8 = .ok (.ireturn, 1) := by decide +kernel
theorem dX6_schedule_0 : decode cX6_schedule 0 = .ok (.aload_n 0, 1) := by decide +kernel
theorem dX6_schedule_1 : decode cX6_schedule 1 = .ok (.getfield 62, 3) := by decide +kernel
theorem dX6_schedule_4 : decode cX6_schedule 4 = .ok (.aload_n 0, 1) := by decide +kernel
theorem dX6_schedule_5 : decode cX6_schedule 5 = .ok (.getfield 55, 3) := by decide +kernel
theorem dX6_schedule_8 : decode cX6_schedule 8 = .ok (.invokevirtual 127, 3) := by decide +kernel
theorem dX6_schedule_11 : decode cX6_schedule 11 = .ok (.ireturn, 1) := by decide +kernel
theorem dX6_run_0 : decode cX6_run 0 = .ok (.iload_n 1, 1) := by decide +kernel
theorem dX6_run_1 : decode cX6_run 1 = .ok (.ifCond .lt 9, 3) := by decide +kernel
theorem dX6_run_4 : decode cX6_run 4 = .ok (.iload_n 1, 1) := by decide +kernel
theorem dX6_run_5 : decode cX6_run 5 = .ok (.bipush 100, 2) := by decide +kernel
theorem dX6_run_7 : decode cX6_run 7 = .ok (.if_icmp .le 13, 3) := by decide +kernel
theorem dX6_run_10 : decode cX6_run 10 = .ok (.new 131, 3) := by decide +kernel
theorem dX6_run_13 : decode cX6_run 13 = .ok (.dup, 1) := by decide +kernel
theorem dX6_run_14 : decode cX6_run 14 = .ok (.ldc 133, 2) := by decide +kernel
theorem dX6_run_16 : decode cX6_run 16 = .ok (.invokespecial 135, 3) := by decide +kernel
theorem dX6_run_19 : decode cX6_run 19 = .ok (.athrow, 1) := by decide +kernel
theorem dX6_run_20 : decode cX6_run 20 = .ok (.iconst 0, 1) := by decide +kernel
theorem dX6_run_21 : decode cX6_run 21 = .ok (.istore_n 2, 1) := by decide +kernel
theorem dX6_run_22 : decode cX6_run 22 = .ok (.iload_n 2, 1) := by decide +kernel
theorem dX6_run_23 : decode cX6_run 23 = .ok (.iload_n 1, 1) := by decide +kernel
theorem dX6_run_24 : decode cX6_run 24 = .ok (.if_icmp .ge 27, 3) := by decide +kernel
theorem dX6_run_27 : decode cX6_run 27 = .ok (.aload_n 0, 1) := by decide +kernel
theorem dX6_run_28 : decode cX6_run 28 = .ok (.invokevirtual 138, 3) := by decide +kernel
theorem dX6_run_31 : decode cX6_run 31 = .ok (.ifCond .eq 10, 3) := by decide +kernel
theorem dX6_run_34 : decode cX6_run 34 = .ok (.iconst (-1), 1) := by decide +kernel
theorem dX6_run_35 : decode cX6_run 35 = .ok (.aload_n 0, 1) := by decide +kernel
theorem dX6_run_36 : decode cX6_run 36 = .ok (.getfield 142, 3) := by decide +kernel
theorem dX6_run_39 : decode cX6_run 39 = .ok (.isub, 1) := by decide +kernel
theorem dX6_run_40 : decode cX6_run 40 = .ok (.ireturn, 1) := by decide +kernel
theorem dX6_run_41 : decode cX6_run 41 = .ok (.aload_n 0, 1) := by decide +kernel
theorem dX6_run_42 : decode cX6_run 42 = .ok (.invokevirtual 145, 3) := by decide +kernel
theorem dX6_run_45 : decode cX6_run 45 = .ok (.iinc 2 1, 3) := by decide +kernel
theorem dX6_run_48 : decode cX6_run 48 = .ok (.goto (-26), 3) := by decide +kernel
theorem dX6_run_51 : decode cX6_run 51 = .ok (.aload_n 0, 1) := by decide +kernel
theorem dX6_run_52 : decode cX6_run 52 = .ok (.getfield 142, 3) := by decide +kernel
theorem dX6_run_55 : decode cX6_run 55 = .ok (.ireturn, 1) := by decide +kernel
theorem dX6_limit_0 : decode cX6_limit 0 = .ok (.aload_n 0, 1) := by decide +kernel
theorem dX6_limit_1 : decode cX6_limit 1 = .ok (.iload_n 1, 1) := by decide +kernel
theorem dX6_limit_2 : decode cX6_limit 2 = .ok (.invokevirtual 66, 3) := by decide +kernel
theorem dX6_limit_5 : decode cX6_limit 5 = .ok (.astore 4, 2) := by decide +kernel
theorem dX6_limit_7 : decode cX6_limit 7 = .ok (.dload_n 2, 1) := by decide +kernel
theorem dX6_limit_8 : decode cX6_limit 8 = .ok (.dconst 0, 1) := by decide +kernel
theorem dX6_limit_9 : decode cX6_limit 9 = .ok (.dcmp .l, 1) := by decide +kernel
theorem dX6_limit_10 : decode cX6_limit 10 = .ok (.ifCond .ge 13, 3) := by decide +kernel
theorem dX6_limit_13 : decode cX6_limit 13 = .ok (.new 131, 3) := by decide +kernel
theorem dX6_limit_16 : decode cX6_limit 16 = .ok (.dup, 1) := by decide +kernel
theorem dX6_limit_17 : decode cX6_limit 17 = .ok (.ldc 148, 2) := by decide +kernel
theorem dX6_limit_19 : decode cX6_limit 19 = .ok (.invokespecial 135, 3) := by decide +kernel
theorem dX6_limit_22 : decode cX6_limit 22 = .ok (.athrow, 1) := by decide +kernel
theorem dX6_limit_23 : decode cX6_limit 23 = .ok (.aload 4, 2) := by decide +kernel
theorem dX6_limit_25 : decode cX6_limit 25 = .ok (.invokestatic 115, 3) := by decide +kernel
theorem dX6_limit_28 : decode cX6_limit 28 = .ok (.aload 4, 2) := by decide +kernel
theorem dX6_limit_30 : decode cX6_limit 30 = .ok (.dload_n 2, 1) := by decide +kernel
end
section
theorem dX6_limit_31 : decode cX6_limit 31 = .ok (.invokevirtual 150, 3) := by decide +kernel
theorem dX6_limit_34 : decode cX6_limit 34 = .ok (.return_, 1) := by decide +kernel
theorem dX6_check_0 : decode cX6_check 0 = .ok (.aload_n 0, 1) := by decide +kernel
theorem dX6_check_1 : decode cX6_check 1 = .ok (.iload_n 1, 1) := by decide +kernel
theorem dX6_check_2 : decode cX6_check 2 = .ok (.invokevirtual 154, 3) := by decide +kernel
theorem dX6_check_5 : decode cX6_check 5 = .ok (.getfield 157, 3) := by decide +kernel
theorem dX6_check_8 : decode cX6_check 8 = .ok (.ireturn, 1) := by decide +kernel
theorem dX6_wet_0 : decode cX6_wet 0 = .ok (.aload_n 0, 1) := by decide +kernel
theorem dX6_wet_1 : decode cX6_wet 1 = .ok (.iload_n 1, 1) := by decide +kernel
theorem dX6_wet_2 : decode cX6_wet 2 = .ok (.invokevirtual 66, 3) := by decide +kernel
theorem dX6_wet_5 : decode cX6_wet 5 = .ok (.astore_n 3, 1) := by decide +kernel
theorem dX6_wet_6 : decode cX6_wet 6 = .ok (.aload_n 0, 1) := by decide +kernel
theorem dX6_wet_7 : decode cX6_wet 7 = .ok (.iload_n 2, 1) := by decide +kernel
theorem dX6_wet_8 : decode cX6_wet 8 = .ok (.invokevirtual 111, 3) := by decide +kernel
theorem dX6_wet_11 : decode cX6_wet 11 = .ok (.aload_n 3, 1) := by decide +kernel
theorem dX6_wet_12 : decode cX6_wet 12 = .ok (.invokestatic 115, 3) := by decide +kernel
theorem dX6_wet_15 : decode cX6_wet 15 = .ok (.aload_n 3, 1) := by decide +kernel
theorem dX6_wet_16 : decode cX6_wet 16 = .ok (.getfield 119, 3) := by decide +kernel
theorem dX6_wet_19 : decode cX6_wet 19 = .ok (.iload_n 2, 1) := by decide +kernel
theorem dX6_wet_20 : decode cX6_wet 20 = .ok (.daload, 1) := by decide +kernel
theorem dX6_wet_21 : decode cX6_wet 21 = .ok (.dreturn, 1) := by decide +kernel
theorem dX6_mean_0 : decode cX6_mean 0 = .ok (.aload_n 0, 1) := by decide +kernel
theorem dX6_mean_1 : decode cX6_mean 1 = .ok (.iload_n 1, 1) := by decide +kernel
theorem dX6_mean_2 : decode cX6_mean 2 = .ok (.invokevirtual 154, 3) := by decide +kernel
theorem dX6_mean_5 : decode cX6_mean 5 = .ok (.invokevirtual 160, 3) := by decide +kernel
theorem dX6_mean_8 : decode cX6_mean 8 = .ok (.dreturn, 1) := by decide +kernel
theorem dX6_stress_0 : decode cX6_stress 0 = .ok (.aload_n 0, 1) := by decide +kernel
theorem dX6_stress_1 : decode cX6_stress 1 = .ok (.iload_n 1, 1) := by decide +kernel
theorem dX6_stress_2 : decode cX6_stress 2 = .ok (.invokevirtual 66, 3) := by decide +kernel
theorem dX6_stress_5 : decode cX6_stress 5 = .ok (.astore_n 3, 1) := by decide +kernel
theorem dX6_stress_6 : decode cX6_stress 6 = .ok (.aload_n 0, 1) := by decide +kernel
theorem dX6_stress_7 : decode cX6_stress 7 = .ok (.iload_n 2, 1) := by decide +kernel
theorem dX6_stress_8 : decode cX6_stress 8 = .ok (.invokevirtual 111, 3) := by decide +kernel
theorem dX6_stress_11 : decode cX6_stress 11 = .ok (.aload_n 3, 1) := by decide +kernel
theorem dX6_stress_12 : decode cX6_stress 12 = .ok (.invokestatic 115, 3) := by decide +kernel
theorem dX6_stress_15 : decode cX6_stress 15 = .ok (.aload_n 3, 1) := by decide +kernel
theorem dX6_stress_16 : decode cX6_stress 16 = .ok (.getfield 119, 3) := by decide +kernel
theorem dX6_stress_19 : decode cX6_stress 19 = .ok (.iload_n 2, 1) := by decide +kernel
theorem dX6_stress_20 : decode cX6_stress 20 = .ok (.daload, 1) := by decide +kernel
theorem dX6_stress_21 : decode cX6_stress 21 = .ok (.invokestatic 164, 3) := by decide +kernel
theorem dX6_stress_24 : decode cX6_stress 24 = .ok (.aload_n 3, 1) := by decide +kernel
theorem dX6_stress_25 : decode cX6_stress 25 = .ok (.invokevirtual 168, 3) := by decide +kernel
theorem dX6_stress_28 : decode cX6_stress 28 = .ok (.dsub, 1) := by decide +kernel
theorem dX6_stress_29 : decode cX6_stress 29 = .ok (.dreturn, 1) := by decide +kernel
theorem dX6_balance_0 : decode cX6_balance 0 = .ok (.aload_n 0, 1) := by decide +kernel
theorem dX6_balance_1 : decode cX6_balance 1 = .ok (.getfield 41, 3) := by decide +kernel
theorem dX6_balance_4 : decode cX6_balance 4 = .ok (.invokevirtual 171, 3) := by decide +kernel
theorem dX6_balance_7 : decode cX6_balance 7 = .ok (.dreturn, 1) := by decide +kernel
theorem dX6_told_0 : decode cX6_told 0 = .ok (.iload_n 1, 1) := by decide +kernel
theorem dX6_told_1 : decode cX6_told 1 = .ok (.tableswitch 75 0 4 #[35, 43, 51, 59, 67], 35) := by decide +kernel
theorem dX6_told_36 : decode cX6_told 36 = .ok (.aload_n 0, 1) := by decide +kernel
theorem dX6_told_37 : decode cX6_told 37 = .ok (.getfield 41, 3) := by decide +kernel
theorem dX6_told_40 : decode cX6_told 40 = .ok (.getfield 99, 3) := by decide +kernel
theorem dX6_told_43 : decode cX6_told 43 = .ok (.dreturn, 1) := by decide +kernel
theorem dX6_told_44 : decode cX6_told 44 = .ok (.aload_n 0, 1) := by decide +kernel
theorem dX6_told_45 : decode cX6_told 45 = .ok (.getfield 41, 3) := by decide +kernel
theorem dX6_told_48 : decode cX6_told 48 = .ok (.getfield 102, 3) := by decide +kernel
theorem dX6_told_51 : decode cX6_told 51 = .ok (.dreturn, 1) := by decide +kernel
theorem dX6_told_52 : decode cX6_told 52 = .ok (.aload_n 0, 1) := by decide +kernel
theorem dX6_told_53 : decode cX6_told 53 = .ok (.getfield 41, 3) := by decide +kernel
theorem dX6_told_56 : decode cX6_told 56 = .ok (.getfield 105, 3) := by decide +kernel
theorem dX6_told_59 : decode cX6_told 59 = .ok (.dreturn, 1) := by decide +kernel
theorem dX6_told_60 : decode cX6_told 60 = .ok (.aload_n 0, 1) := by decide +kernel
theorem dX6_told_61 : decode cX6_told 61 = .ok (.getfield 41, 3) := by decide +kernel
theorem dX6_told_64 : decode cX6_told 64 = .ok (.getfield 108, 3) := by decide +kernel
theorem dX6_told_67 : decode cX6_told 67 = .ok (.dreturn, 1) := by decide +kernel
theorem dX6_told_68 : decode cX6_told 68 = .ok (.aload_n 0, 1) := by decide +kernel
theorem dX6_told_69 : decode cX6_told 69 = .ok (.getfield 48, 3) := by decide +kernel
theorem dX6_told_72 : decode cX6_told 72 = .ok (.getfield 174, 3) := by decide +kernel
theorem dX6_told_75 : decode cX6_told 75 = .ok (.dreturn, 1) := by decide +kernel
theorem dX6_told_76 : decode cX6_told 76 = .ok (.new 177, 3) := by decide +kernel
theorem dX6_told_79 : decode cX6_told 79 = .ok (.dup, 1) := by decide +kernel
theorem dX6_told_80 : decode cX6_told 80 = .ok (.ldc 179, 2) := by decide +kernel
theorem dX6_told_82 : decode cX6_told 82 = .ok (.invokespecial 181, 3) := by decide +kernel
theorem dX6_told_85 : decode cX6_told 85 = .ok (.athrow, 1) := by decide +kernel
theorem dX6_grams_0 : decode cX6_grams 0 = .ok (.aload_n 0, 1) := by decide +kernel
theorem dX6_grams_1 : decode cX6_grams 1 = .ok (.getfield 48, 3) := by decide +kernel
theorem dX6_grams_4 : decode cX6_grams 4 = .ok (.getfield 182, 3) := by decide +kernel
theorem dX6_grams_7 : decode cX6_grams 7 = .ok (.lreturn, 1) := by decide +kernel
theorem dX6_count_0 : decode cX6_count 0 = .ok (.iload_n 1, 1) := by decide +kernel
theorem dX6_count_1 : decode cX6_count 1 = .ok (.tableswitch 45 0 2 #[27, 32, 40], 27) := by decide +kernel
theorem dX6_count_28 : decode cX6_count 28 = .ok (.aload_n 0, 1) := by decide +kernel
theorem dX6_count_29 : decode cX6_count 29 = .ok (.getfield 142, 3) := by decide +kernel
theorem dX6_count_32 : decode cX6_count 32 = .ok (.ireturn, 1) := by decide +kernel
theorem dX6_count_33 : decode cX6_count 33 = .ok (.aload_n 0, 1) := by decide +kernel
theorem dX6_count_34 : decode cX6_count 34 = .ok (.getfield 62, 3) := by decide +kernel
theorem dX6_count_37 : decode cX6_count 37 = .ok (.getfield 186, 3) := by decide +kernel
theorem dX6_count_40 : decode cX6_count 40 = .ok (.ireturn, 1) := by decide +kernel
theorem dX6_count_41 : decode cX6_count 41 = .ok (.aload_n 0, 1) := by decide +kernel
theorem dX6_count_42 : decode cX6_count 42 = .ok (.invokevirtual 189, 3) := by decide +kernel
theorem dX6_count_45 : decode cX6_count 45 = .ok (.ireturn, 1) := by decide +kernel
theorem dX6_count_46 : decode cX6_count 46 = .ok (.new 177, 3) := by decide +kernel
theorem dX6_count_49 : decode cX6_count 49 = .ok (.dup, 1) := by decide +kernel
theorem dX6_count_50 : decode cX6_count 50 = .ok (.ldc 193, 2) := by decide +kernel
theorem dX6_count_52 : decode cX6_count 52 = .ok (.invokespecial 181, 3) := by decide +kernel
theorem dX6_count_55 : decode cX6_count 55 = .ok (.athrow, 1) := by decide +kernel
theorem dX6_slotOf_0 : decode cX6_slotOf 0 = .ok (.iload_n 1, 1) := by decide +kernel
theorem dX6_slotOf_1 : decode cX6_slotOf 1 = .ok (.ifCond .lt 12, 3) := by decide +kernel
theorem dX6_slotOf_4 : decode cX6_slotOf 4 = .ok (.iload_n 1, 1) := by decide +kernel
theorem dX6_slotOf_5 : decode cX6_slotOf 5 = .ok (.aload_n 0, 1) := by decide +kernel
theorem dX6_slotOf_6 : decode cX6_slotOf 6 = .ok (.getfield 31, 3) := by decide +kernel
theorem dX6_slotOf_9 : decode cX6_slotOf 9 = .ok (.arraylength, 1) := by decide +kernel
theorem dX6_slotOf_10 : decode cX6_slotOf 10 = .ok (.if_icmp .lt 13, 3) := by decide +kernel
theorem dX6_slotOf_13 : decode cX6_slotOf 13 = .ok (.new 177, 3) := by decide +kernel
theorem dX6_slotOf_16 : decode cX6_slotOf 16 = .ok (.dup, 1) := by decide +kernel
theorem dX6_slotOf_17 : decode cX6_slotOf 17 = .ok (.ldc 195, 2) := by decide +kernel
theorem dX6_slotOf_19 : decode cX6_slotOf 19 = .ok (.invokespecial 181, 3) := by decide +kernel
theorem dX6_slotOf_22 : decode cX6_slotOf 22 = .ok (.athrow, 1) := by decide +kernel
theorem dX6_slotOf_23 : decode cX6_slotOf 23 = .ok (.aload_n 0, 1) := by decide +kernel
theorem dX6_slotOf_24 : decode cX6_slotOf 24 = .ok (.getfield 31, 3) := by decide +kernel
theorem dX6_slotOf_27 : decode cX6_slotOf 27 = .ok (.iload_n 1, 1) := by decide +kernel
theorem dX6_slotOf_28 : decode cX6_slotOf 28 = .ok (.aaload, 1) := by decide +kernel
theorem dX6_slotOf_29 : decode cX6_slotOf 29 = .ok (.areturn, 1) := by decide +kernel
theorem dX6_boardThere_0 : decode cX6_boardThere 0 = .ok (.aload_n 0, 1) := by decide +kernel
theorem dX6_boardThere_1 : decode cX6_boardThere 1 = .ok (.iload_n 1, 1) := by decide +kernel
theorem dX6_boardThere_2 : decode cX6_boardThere 2 = .ok (.invokevirtual 66, 3) := by decide +kernel
theorem dX6_boardThere_5 : decode cX6_boardThere 5 = .ok (.astore_n 2, 1) := by decide +kernel
theorem dX6_boardThere_6 : decode cX6_boardThere 6 = .ok (.aload_n 2, 1) := by decide +kernel
theorem dX6_boardThere_7 : decode cX6_boardThere 7 = .ok (.invokestatic 115, 3) := by decide +kernel
theorem dX6_boardThere_10 : decode cX6_boardThere 10 = .ok (.aload_n 2, 1) := by decide +kernel
theorem dX6_boardThere_11 : decode cX6_boardThere 11 = .ok (.areturn, 1) := by decide +kernel
theorem dX6_kindOf_0 : decode cX6_kindOf 0 = .ok (.iload_n 1, 1) := by decide +kernel
theorem dX6_kindOf_1 : decode cX6_kindOf 1 = .ok (.ifCond .lt 12, 3) := by decide +kernel
theorem dX6_kindOf_4 : decode cX6_kindOf 4 = .ok (.iload_n 1, 1) := by decide +kernel
theorem dX6_kindOf_5 : decode cX6_kindOf 5 = .ok (.aload_n 0, 1) := by decide +kernel
theorem dX6_kindOf_6 : decode cX6_kindOf 6 = .ok (.getfield 24, 3) := by decide +kernel
theorem dX6_kindOf_9 : decode cX6_kindOf 9 = .ok (.arraylength, 1) := by decide +kernel
theorem dX6_kindOf_10 : decode cX6_kindOf 10 = .ok (.if_icmp .lt 13, 3) := by decide +kernel
theorem dX6_kindOf_13 : decode cX6_kindOf 13 = .ok (.new 177, 3) := by decide +kernel
theorem dX6_kindOf_16 : decode cX6_kindOf 16 = .ok (.dup, 1) := by decide +kernel
theorem dX6_kindOf_17 : decode cX6_kindOf 17 = .ok (.ldc 197, 2) := by decide +kernel
theorem dX6_kindOf_19 : decode cX6_kindOf 19 = .ok (.invokespecial 181, 3) := by decide +kernel
theorem dX6_kindOf_22 : decode cX6_kindOf 22 = .ok (.athrow, 1) := by decide +kernel
theorem dX6_kindOf_23 : decode cX6_kindOf 23 = .ok (.aload_n 0, 1) := by decide +kernel
theorem dX6_kindOf_24 : decode cX6_kindOf 24 = .ok (.getfield 24, 3) := by decide +kernel
theorem dX6_kindOf_27 : decode cX6_kindOf 27 = .ok (.iload_n 1, 1) := by decide +kernel
theorem dX6_kindOf_28 : decode cX6_kindOf 28 = .ok (.aaload, 1) := by decide +kernel
theorem dX6_kindOf_29 : decode cX6_kindOf 29 = .ok (.areturn, 1) := by decide +kernel
theorem dX6_requireLayer_0 : decode cX6_requireLayer 0 = .ok (.iload_n 1, 1) := by decide +kernel
theorem dX6_requireLayer_1 : decode cX6_requireLayer 1 = .ok (.ifCond .lt 11, 3) := by decide +kernel
theorem dX6_requireLayer_4 : decode cX6_requireLayer 4 = .ok (.iload_n 1, 1) := by decide +kernel
theorem dX6_requireLayer_5 : decode cX6_requireLayer 5 = .ok (.aload_n 0, 1) := by decide +kernel
theorem dX6_requireLayer_6 : decode cX6_requireLayer 6 = .ok (.getfield 18, 3) := by decide +kernel
theorem dX6_requireLayer_9 : decode cX6_requireLayer 9 = .ok (.if_icmp .lt 13, 3) := by decide +kernel
theorem dX6_requireLayer_12 : decode cX6_requireLayer 12 = .ok (.new 177, 3) := by decide +kernel
theorem dX6_requireLayer_15 : decode cX6_requireLayer 15 = .ok (.dup, 1) := by decide +kernel
theorem dX6_requireLayer_16 : decode cX6_requireLayer 16 = .ok (.ldc 199, 2) := by decide +kernel
theorem dX6_requireLayer_18 : decode cX6_requireLayer 18 = .ok (.invokespecial 181, 3) := by decide +kernel
theorem dX6_requireLayer_21 : decode cX6_requireLayer 21 = .ok (.athrow, 1) := by decide +kernel
theorem dX6_requireLayer_22 : decode cX6_requireLayer 22 = .ok (.return_, 1) := by decide +kernel
theorem dX6_requireThere_0 : decode cX6_requireThere 0 = .ok (.aload_n 0, 1) := by decide +kernel
theorem dX6_requireThere_1 : decode cX6_requireThere 1 = .ok (.getfield 201, 3) := by decide +kernel
theorem dX6_requireThere_4 : decode cX6_requireThere 4 = .ok (.ifCond .ne 13, 3) := by decide +kernel
theorem dX6_requireThere_7 : decode cX6_requireThere 7 = .ok (.new 205, 3) := by decide +kernel
theorem dX6_requireThere_10 : decode cX6_requireThere 10 = .ok (.dup, 1) := by decide +kernel
theorem dX6_requireThere_11 : decode cX6_requireThere 11 = .ok (.ldc 207, 2) := by decide +kernel
theorem dX6_requireThere_13 : decode cX6_requireThere 13 = .ok (.invokespecial 209, 3) := by decide +kernel
theorem dX6_requireThere_16 : decode cX6_requireThere 16 = .ok (.athrow, 1) := by decide +kernel
theorem dX6_requireThere_17 : decode cX6_requireThere 17 = .ok (.return_, 1) := by decide +kernel
theorem dX6_requireWithin_0 : decode cX6_requireWithin 0 = .ok (.dload_n 0, 1) := by decide +kernel
theorem dX6_requireWithin_1 : decode cX6_requireWithin 1 = .ok (.dload_n 2, 1) := by decide +kernel
theorem dX6_requireWithin_2 : decode cX6_requireWithin 2 = .ok (.dcmp .l, 1) := by decide +kernel
theorem dX6_requireWithin_3 : decode cX6_requireWithin 3 = .ok (.ifCond .lt 10, 3) := by decide +kernel
theorem dX6_requireWithin_6 : decode cX6_requireWithin 6 = .ok (.dload_n 0, 1) := by decide +kernel
theorem dX6_requireWithin_7 : decode cX6_requireWithin 7 = .ok (.dload 4, 2) := by decide +kernel
theorem dX6_requireWithin_9 : decode cX6_requireWithin 9 = .ok (.dcmp .g, 1) := by decide +kernel
theorem dX6_requireWithin_10 : decode cX6_requireWithin 10 = .ok (.ifCond .le 13, 3) := by decide +kernel
theorem dX6_requireWithin_13 : decode cX6_requireWithin 13 = .ok (.new 131, 3) := by decide +kernel
theorem dX6_requireWithin_16 : decode cX6_requireWithin 16 = .ok (.dup, 1) := by decide +kernel
theorem dX6_requireWithin_17 : decode cX6_requireWithin 17 = .ok (.ldc 210, 2) := by decide +kernel
theorem dX6_requireWithin_19 : decode cX6_requireWithin 19 = .ok (.invokespecial 135, 3) := by decide +kernel
theorem dX6_requireWithin_22 : decode cX6_requireWithin 22 = .ok (.athrow, 1) := by decide +kernel
theorem dX6_requireWithin_23 : decode cX6_requireWithin 23 = .ok (.return_, 1) := by decide +kernel
theorem dX6_boardsThere_0 : decode cX6_boardsThere 0 = .ok (.iconst 0, 1) := by decide +kernel
theorem dX6_boardsThere_1 : decode cX6_boardsThere 1 = .ok (.istore_n 1, 1) := by decide +kernel
theorem dX6_boardsThere_2 : decode cX6_boardsThere 2 = .ok (.iconst 0, 1) := by decide +kernel
theorem dX6_boardsThere_3 : decode cX6_boardsThere 3 = .ok (.istore_n 2, 1) := by decide +kernel
theorem dX6_boardsThere_4 : decode cX6_boardsThere 4 = .ok (.iload_n 2, 1) := by decide +kernel
theorem dX6_boardsThere_5 : decode cX6_boardsThere 5 = .ok (.aload_n 0, 1) := by decide +kernel
theorem dX6_boardsThere_6 : decode cX6_boardsThere 6 = .ok (.getfield 31, 3) := by decide +kernel
theorem dX6_boardsThere_9 : decode cX6_boardsThere 9 = .ok (.arraylength, 1) := by decide +kernel
theorem dX6_boardsThere_10 : decode cX6_boardsThere 10 = .ok (.if_icmp .ge 24, 3) := by decide +kernel
theorem dX6_boardsThere_13 : decode cX6_boardsThere 13 = .ok (.aload_n 0, 1) := by decide +kernel
theorem dX6_boardsThere_14 : decode cX6_boardsThere 14 = .ok (.getfield 31, 3) := by decide +kernel
theorem dX6_boardsThere_17 : decode cX6_boardsThere 17 = .ok (.iload_n 2, 1) := by decide +kernel
theorem dX6_boardsThere_18 : decode cX6_boardsThere 18 = .ok (.aaload, 1) := by decide +kernel
theorem dX6_boardsThere_19 : decode cX6_boardsThere 19 = .ok (.getfield 201, 3) := by decide +kernel
theorem dX6_boardsThere_22 : decode cX6_boardsThere 22 = .ok (.ifCond .eq 6, 3) := by decide +kernel
theorem dX6_boardsThere_25 : decode cX6_boardsThere 25 = .ok (.iinc 1 1, 3) := by decide +kernel
theorem dX6_boardsThere_28 : decode cX6_boardsThere 28 = .ok (.iinc 2 1, 3) := by decide +kernel
theorem dX6_boardsThere_31 : decode cX6_boardsThere 31 = .ok (.goto (-27), 3) := by decide +kernel
theorem dX6_boardsThere_34 : decode cX6_boardsThere 34 = .ok (.iload_n 1, 1) := by decide +kernel
theorem dX6_boardsThere_35 : decode cX6_boardsThere 35 = .ok (.ireturn, 1) := by decide +kernel
theorem dX6_isRefused_0 : decode cX6_isRefused 0 = .ok (.iconst 0, 1) := by decide +kernel
theorem dX6_isRefused_1 : decode cX6_isRefused 1 = .ok (.istore_n 1, 1) := by decide +kernel
theorem dX6_isRefused_2 : decode cX6_isRefused 2 = .ok (.iload_n 1, 1) := by decide +kernel
theorem dX6_isRefused_3 : decode cX6_isRefused 3 = .ok (.aload_n 0, 1) := by decide +kernel
theorem dX6_isRefused_4 : decode cX6_isRefused 4 = .ok (.getfield 31, 3) := by decide +kernel
theorem dX6_isRefused_7 : decode cX6_isRefused 7 = .ok (.arraylength, 1) := by decide +kernel
theorem dX6_isRefused_8 : decode cX6_isRefused 8 = .ok (.if_icmp .ge 42, 3) := by decide +kernel
theorem dX6_isRefused_11 : decode cX6_isRefused 11 = .ok (.aload_n 0, 1) := by decide +kernel
theorem dX6_isRefused_12 : decode cX6_isRefused 12 = .ok (.getfield 31, 3) := by decide +kernel
theorem dX6_isRefused_15 : decode cX6_isRefused 15 = .ok (.iload_n 1, 1) := by decide +kernel
theorem dX6_isRefused_16 : decode cX6_isRefused 16 = .ok (.aaload, 1) := by decide +kernel
theorem dX6_isRefused_17 : decode cX6_isRefused 17 = .ok (.getfield 201, 3) := by decide +kernel
theorem dX6_isRefused_20 : decode cX6_isRefused 20 = .ok (.ifCond .eq 24, 3) := by decide +kernel
theorem dX6_isRefused_23 : decode cX6_isRefused 23 = .ok (.aload_n 0, 1) := by decide +kernel
theorem dX6_isRefused_24 : decode cX6_isRefused 24 = .ok (.getfield 31, 3) := by decide +kernel
theorem dX6_isRefused_27 : decode cX6_isRefused 27 = .ok (.iload_n 1, 1) := by decide +kernel
theorem dX6_isRefused_28 : decode cX6_isRefused 28 = .ok (.aaload, 1) := by decide +kernel
theorem dX6_isRefused_29 : decode cX6_isRefused 29 = .ok (.aload_n 0, 1) := by decide +kernel
theorem dX6_isRefused_30 : decode cX6_isRefused 30 = .ok (.getfield 41, 3) := by decide +kernel
theorem dX6_isRefused_33 : decode cX6_isRefused 33 = .ok (.getfield 105, 3) := by decide +kernel
theorem dX6_isRefused_36 : decode cX6_isRefused 36 = .ok (.invokevirtual 212, 3) := by decide +kernel
theorem dX6_isRefused_39 : decode cX6_isRefused 39 = .ok (.ifCond .eq 5, 3) := by decide +kernel
theorem dX6_isRefused_42 : decode cX6_isRefused 42 = .ok (.iconst 1, 1) := by decide +kernel
theorem dX6_isRefused_43 : decode cX6_isRefused 43 = .ok (.ireturn, 1) := by decide +kernel
theorem dX6_isRefused_44 : decode cX6_isRefused 44 = .ok (.iinc 1 1, 3) := by decide +kernel
theorem dX6_isRefused_47 : decode cX6_isRefused 47 = .ok (.goto (-45), 3) := by decide +kernel
theorem dX6_isRefused_50 : decode cX6_isRefused 50 = .ok (.iconst 0, 1) := by decide +kernel
theorem dX6_isRefused_51 : decode cX6_isRefused 51 = .ok (.ireturn, 1) := by decide +kernel
theorem dX6_passHour_0 : decode cX6_passHour 0 = .ok (.aload_n 0, 1) := by decide +kernel
theorem dX6_passHour_1 : decode cX6_passHour 1 = .ok (.invokevirtual 216, 3) := by decide +kernel
theorem dX6_passHour_4 : decode cX6_passHour 4 = .ok (.iconst 0, 1) := by decide +kernel
theorem dX6_passHour_5 : decode cX6_passHour 5 = .ok (.istore_n 1, 1) := by decide +kernel
theorem dX6_passHour_6 : decode cX6_passHour 6 = .ok (.iload_n 1, 1) := by decide +kernel
theorem dX6_passHour_7 : decode cX6_passHour 7 = .ok (.aload_n 0, 1) := by decide +kernel
theorem dX6_passHour_8 : decode cX6_passHour 8 = .ok (.getfield 31, 3) := by decide +kernel
theorem dX6_passHour_11 : decode cX6_passHour 11 = .ok (.arraylength, 1) := by decide +kernel
theorem dX6_passHour_12 : decode cX6_passHour 12 = .ok (.if_icmp .ge 61, 3) := by decide +kernel
theorem dX6_passHour_15 : decode cX6_passHour 15 = .ok (.aload_n 0, 1) := by decide +kernel
theorem dX6_passHour_16 : decode cX6_passHour 16 = .ok (.getfield 31, 3) := by decide +kernel
theorem dX6_passHour_19 : decode cX6_passHour 19 = .ok (.iload_n 1, 1) := by decide +kernel
theorem dX6_passHour_20 : decode cX6_passHour 20 = .ok (.aaload, 1) := by decide +kernel
theorem dX6_passHour_21 : decode cX6_passHour 21 = .ok (.getfield 201, 3) := by decide +kernel
theorem dX6_passHour_24 : decode cX6_passHour 24 = .ok (.ifCond .eq 43, 3) := by decide +kernel
theorem dX6_passHour_27 : decode cX6_passHour 27 = .ok (.aload_n 0, 1) := by decide +kernel
theorem dX6_passHour_28 : decode cX6_passHour 28 = .ok (.getfield 31, 3) := by decide +kernel
theorem dX6_passHour_31 : decode cX6_passHour 31 = .ok (.iload_n 1, 1) := by decide +kernel
theorem dX6_passHour_32 : decode cX6_passHour 32 = .ok (.aaload, 1) := by decide +kernel
theorem dX6_passHour_33 : decode cX6_passHour 33 = .ok (.aload_n 0, 1) := by decide +kernel
theorem dX6_passHour_34 : decode cX6_passHour 34 = .ok (.getfield 41, 3) := by decide +kernel
theorem dX6_passHour_37 : decode cX6_passHour 37 = .ok (.getfield 105, 3) := by decide +kernel
theorem dX6_passHour_40 : decode cX6_passHour 40 = .ok (.aload_n 0, 1) := by decide +kernel
theorem dX6_passHour_41 : decode cX6_passHour 41 = .ok (.getfield 41, 3) := by decide +kernel
theorem dX6_passHour_44 : decode cX6_passHour 44 = .ok (.invokevirtual 171, 3) := by decide +kernel
theorem dX6_passHour_47 : decode cX6_passHour 47 = .ok (.invokevirtual 219, 3) := by decide +kernel
theorem dX6_passHour_50 : decode cX6_passHour 50 = .ok (.dstore_n 2, 1) := by decide +kernel
theorem dX6_passHour_51 : decode cX6_passHour 51 = .ok (.aload_n 0, 1) := by decide +kernel
theorem dX6_passHour_52 : decode cX6_passHour 52 = .ok (.getfield 48, 3) := by decide +kernel
theorem dX6_passHour_55 : decode cX6_passHour 55 = .ok (.dload_n 2, 1) := by decide +kernel
theorem dX6_passHour_56 : decode cX6_passHour 56 = .ok (.invokevirtual 223, 3) := by decide +kernel
theorem dX6_passHour_59 : decode cX6_passHour 59 = .ok (.aload_n 0, 1) := by decide +kernel
theorem dX6_passHour_60 : decode cX6_passHour 60 = .ok (.getfield 41, 3) := by decide +kernel
theorem dX6_passHour_63 : decode cX6_passHour 63 = .ok (.dload_n 2, 1) := by decide +kernel
theorem dX6_passHour_64 : decode cX6_passHour 64 = .ok (.invokevirtual 226, 3) := by decide +kernel
theorem dX6_passHour_67 : decode cX6_passHour 67 = .ok (.iinc 1 1, 3) := by decide +kernel
theorem dX6_passHour_70 : decode cX6_passHour 70 = .ok (.goto (-64), 3) := by decide +kernel
theorem dX6_passHour_73 : decode cX6_passHour 73 = .ok (.aload_n 0, 1) := by decide +kernel
theorem dX6_passHour_74 : decode cX6_passHour 74 = .ok (.dup, 1) := by decide +kernel
theorem dX6_passHour_75 : decode cX6_passHour 75 = .ok (.getfield 142, 3) := by decide +kernel
theorem dX6_passHour_78 : decode cX6_passHour 78 = .ok (.iconst 1, 1) := by decide +kernel
theorem dX6_passHour_79 : decode cX6_passHour 79 = .ok (.iadd, 1) := by decide +kernel
theorem dX6_passHour_80 : decode cX6_passHour 80 = .ok (.putfield 142, 3) := by decide +kernel
theorem dX6_passHour_83 : decode cX6_passHour 83 = .ok (.iconst 0, 1) := by decide +kernel
theorem dX6_passHour_84 : decode cX6_passHour 84 = .ok (.istore_n 1, 1) := by decide +kernel
theorem dX6_passHour_85 : decode cX6_passHour 85 = .ok (.iload_n 1, 1) := by decide +kernel
theorem dX6_passHour_86 : decode cX6_passHour 86 = .ok (.aload_n 0, 1) := by decide +kernel
theorem dX6_passHour_87 : decode cX6_passHour 87 = .ok (.getfield 31, 3) := by decide +kernel
theorem dX6_passHour_90 : decode cX6_passHour 90 = .ok (.arraylength, 1) := by decide +kernel
theorem dX6_passHour_91 : decode cX6_passHour 91 = .ok (.if_icmp .ge 34, 3) := by decide +kernel
theorem dX6_passHour_94 : decode cX6_passHour 94 = .ok (.aload_n 0, 1) := by decide +kernel
theorem dX6_passHour_95 : decode cX6_passHour 95 = .ok (.getfield 31, 3) := by decide +kernel
theorem dX6_passHour_98 : decode cX6_passHour 98 = .ok (.iload_n 1, 1) := by decide +kernel
theorem dX6_passHour_99 : decode cX6_passHour 99 = .ok (.aaload, 1) := by decide +kernel
theorem dX6_passHour_100 : decode cX6_passHour 100 = .ok (.getfield 201, 3) := by decide +kernel
theorem dX6_passHour_103 : decode cX6_passHour 103 = .ok (.ifCond .eq 16, 3) := by decide +kernel
theorem dX6_passHour_106 : decode cX6_passHour 106 = .ok (.aload_n 0, 1) := by decide +kernel
theorem dX6_passHour_107 : decode cX6_passHour 107 = .ok (.getfield 31, 3) := by decide +kernel
theorem dX6_passHour_110 : decode cX6_passHour 110 = .ok (.iload_n 1, 1) := by decide +kernel
theorem dX6_passHour_111 : decode cX6_passHour 111 = .ok (.aaload, 1) := by decide +kernel
theorem dX6_passHour_112 : decode cX6_passHour 112 = .ok (.aload_n 0, 1) := by decide +kernel
theorem dX6_passHour_113 : decode cX6_passHour 113 = .ok (.getfield 142, 3) := by decide +kernel
theorem dX6_passHour_116 : decode cX6_passHour 116 = .ok (.invokevirtual 229, 3) := by decide +kernel
theorem dX6_passHour_119 : decode cX6_passHour 119 = .ok (.iinc 1 1, 3) := by decide +kernel
theorem dX6_passHour_122 : decode cX6_passHour 122 = .ok (.goto (-37), 3) := by decide +kernel
theorem dX6_passHour_125 : decode cX6_passHour 125 = .ok (.return_, 1) := by decide +kernel
theorem dX6_followPlan_0 : decode cX6_followPlan 0 = .ok (.aload_n 0, 1) := by decide +kernel
theorem dX6_followPlan_1 : decode cX6_followPlan 1 = .ok (.getfield 62, 3) := by decide +kernel
theorem dX6_followPlan_4 : decode cX6_followPlan 4 = .ok (.getfield 186, 3) := by decide +kernel
theorem dX6_followPlan_7 : decode cX6_followPlan 7 = .ok (.aload_n 0, 1) := by decide +kernel
theorem dX6_followPlan_8 : decode cX6_followPlan 8 = .ok (.getfield 62, 3) := by decide +kernel
theorem dX6_followPlan_11 : decode cX6_followPlan 11 = .ok (.getfield 232, 3) := by decide +kernel
theorem dX6_followPlan_14 : decode cX6_followPlan 14 = .ok (.if_icmp .ge 80, 3) := by decide +kernel
theorem dX6_followPlan_17 : decode cX6_followPlan 17 = .ok (.aload_n 0, 1) := by decide +kernel
theorem dX6_followPlan_18 : decode cX6_followPlan 18 = .ok (.aload_n 0, 1) := by decide +kernel
theorem dX6_followPlan_19 : decode cX6_followPlan 19 = .ok (.getfield 62, 3) := by decide +kernel
theorem dX6_followPlan_22 : decode cX6_followPlan 22 = .ok (.getfield 186, 3) := by decide +kernel
theorem dX6_followPlan_25 : decode cX6_followPlan 25 = .ok (.invokevirtual 235, 3) := by decide +kernel
theorem dX6_followPlan_28 : decode cX6_followPlan 28 = .ok (.ifCond .eq 66, 3) := by decide +kernel
theorem dX6_followPlan_31 : decode cX6_followPlan 31 = .ok (.aload_n 0, 1) := by decide +kernel
theorem dX6_followPlan_32 : decode cX6_followPlan 32 = .ok (.getfield 41, 3) := by decide +kernel
theorem dX6_followPlan_35 : decode cX6_followPlan 35 = .ok (.aload_n 0, 1) := by decide +kernel
theorem dX6_followPlan_36 : decode cX6_followPlan 36 = .ok (.getfield 62, 3) := by decide +kernel
theorem dX6_followPlan_39 : decode cX6_followPlan 39 = .ok (.getfield 238, 3) := by decide +kernel
theorem dX6_followPlan_42 : decode cX6_followPlan 42 = .ok (.aload_n 0, 1) := by decide +kernel
theorem dX6_followPlan_43 : decode cX6_followPlan 43 = .ok (.getfield 62, 3) := by decide +kernel
theorem dX6_followPlan_46 : decode cX6_followPlan 46 = .ok (.getfield 186, 3) := by decide +kernel
theorem dX6_followPlan_49 : decode cX6_followPlan 49 = .ok (.iaload, 1) := by decide +kernel
theorem dX6_followPlan_50 : decode cX6_followPlan 50 = .ok (.i2d, 1) := by decide +kernel
theorem dX6_followPlan_51 : decode cX6_followPlan 51 = .ok (.putfield 99, 3) := by decide +kernel
theorem dX6_followPlan_54 : decode cX6_followPlan 54 = .ok (.aload_n 0, 1) := by decide +kernel
theorem dX6_followPlan_55 : decode cX6_followPlan 55 = .ok (.getfield 41, 3) := by decide +kernel
theorem dX6_followPlan_58 : decode cX6_followPlan 58 = .ok (.aload_n 0, 1) := by decide +kernel
theorem dX6_followPlan_59 : decode cX6_followPlan 59 = .ok (.getfield 62, 3) := by decide +kernel
theorem dX6_followPlan_62 : decode cX6_followPlan 62 = .ok (.getfield 242, 3) := by decide +kernel
theorem dX6_followPlan_65 : decode cX6_followPlan 65 = .ok (.aload_n 0, 1) := by decide +kernel
theorem dX6_followPlan_66 : decode cX6_followPlan 66 = .ok (.getfield 62, 3) := by decide +kernel
theorem dX6_followPlan_69 : decode cX6_followPlan 69 = .ok (.getfield 186, 3) := by decide +kernel
theorem dX6_followPlan_72 : decode cX6_followPlan 72 = .ok (.iaload, 1) := by decide +kernel
theorem dX6_followPlan_73 : decode cX6_followPlan 73 = .ok (.i2d, 1) := by decide +kernel
theorem dX6_followPlan_74 : decode cX6_followPlan 74 = .ok (.ldc2_w 245, 3) := by decide +kernel
theorem dX6_followPlan_77 : decode cX6_followPlan 77 = .ok (.ddiv, 1) := by decide +kernel
theorem dX6_followPlan_78 : decode cX6_followPlan 78 = .ok (.putfield 102, 3) := by decide +kernel
theorem dX6_followPlan_81 : decode cX6_followPlan 81 = .ok (.aload_n 0, 1) := by decide +kernel
theorem dX6_followPlan_82 : decode cX6_followPlan 82 = .ok (.getfield 62, 3) := by decide +kernel
theorem dX6_followPlan_85 : decode cX6_followPlan 85 = .ok (.dup, 1) := by decide +kernel
theorem dX6_followPlan_86 : decode cX6_followPlan 86 = .ok (.getfield 186, 3) := by decide +kernel
theorem dX6_followPlan_89 : decode cX6_followPlan 89 = .ok (.iconst 1, 1) := by decide +kernel
theorem dX6_followPlan_90 : decode cX6_followPlan 90 = .ok (.iadd, 1) := by decide +kernel
theorem dX6_followPlan_91 : decode cX6_followPlan 91 = .ok (.putfield 186, 3) := by decide +kernel
theorem dX6_followPlan_94 : decode cX6_followPlan 94 = .ok (.return_, 1) := by decide +kernel
theorem dX6_isStepDue_0 : decode cX6_isStepDue 0 = .ok (.aload_n 0, 1) := by decide +kernel
theorem dX6_isStepDue_1 : decode cX6_isStepDue 1 = .ok (.getfield 62, 3) := by decide +kernel
theorem dX6_isStepDue_4 : decode cX6_isStepDue 4 = .ok (.getfield 247, 3) := by decide +kernel
theorem dX6_isStepDue_7 : decode cX6_isStepDue 7 = .ok (.iload_n 1, 1) := by decide +kernel
theorem dX6_isStepDue_8 : decode cX6_isStepDue 8 = .ok (.baload, 1) := by decide +kernel
theorem dX6_isStepDue_9 : decode cX6_isStepDue 9 = .ok (.ifCond .eq 25, 3) := by decide +kernel
theorem dX6_isStepDue_12 : decode cX6_isStepDue 12 = .ok (.aload_n 0, 1) := by decide +kernel
theorem dX6_isStepDue_13 : decode cX6_isStepDue 13 = .ok (.getfield 142, 3) := by decide +kernel
theorem dX6_isStepDue_16 : decode cX6_isStepDue 16 = .ok (.aload_n 0, 1) := by decide +kernel
theorem dX6_isStepDue_17 : decode cX6_isStepDue 17 = .ok (.getfield 62, 3) := by decide +kernel
theorem dX6_isStepDue_20 : decode cX6_isStepDue 20 = .ok (.getfield 251, 3) := by decide +kernel
theorem dX6_isStepDue_23 : decode cX6_isStepDue 23 = .ok (.iload_n 1, 1) := by decide +kernel
theorem dX6_isStepDue_24 : decode cX6_isStepDue 24 = .ok (.iaload, 1) := by decide +kernel
theorem dX6_isStepDue_25 : decode cX6_isStepDue 25 = .ok (.if_icmp .lt 7, 3) := by decide +kernel
theorem dX6_isStepDue_28 : decode cX6_isStepDue 28 = .ok (.iconst 1, 1) := by decide +kernel
theorem dX6_isStepDue_29 : decode cX6_isStepDue 29 = .ok (.goto 4, 3) := by decide +kernel
theorem dX6_isStepDue_32 : decode cX6_isStepDue 32 = .ok (.iconst 0, 1) := by decide +kernel
theorem dX6_isStepDue_33 : decode cX6_isStepDue 33 = .ok (.ireturn, 1) := by decide +kernel
theorem dX6_isStepDue_34 : decode cX6_isStepDue 34 = .ok (.aload_n 0, 1) := by decide +kernel
theorem dX6_isStepDue_35 : decode cX6_isStepDue 35 = .ok (.invokevirtual 189, 3) := by decide +kernel
theorem dX6_isStepDue_38 : decode cX6_isStepDue 38 = .ok (.ifCond .le 28, 3) := by decide +kernel
theorem dX6_isStepDue_41 : decode cX6_isStepDue 41 = .ok (.aload_n 0, 1) := by decide +kernel
theorem dX6_isStepDue_42 : decode cX6_isStepDue 42 = .ok (.aload_n 0, 1) := by decide +kernel
theorem dX6_isStepDue_43 : decode cX6_isStepDue 43 = .ok (.getfield 62, 3) := by decide +kernel
theorem dX6_isStepDue_46 : decode cX6_isStepDue 46 = .ok (.getfield 251, 3) := by decide +kernel
theorem dX6_isStepDue_49 : decode cX6_isStepDue 49 = .ok (.iload_n 1, 1) := by decide +kernel
theorem dX6_isStepDue_50 : decode cX6_isStepDue 50 = .ok (.iaload, 1) := by decide +kernel
theorem dX6_isStepDue_51 : decode cX6_isStepDue 51 = .ok (.i2d, 1) := by decide +kernel
theorem dX6_isStepDue_52 : decode cX6_isStepDue 52 = .ok (.ldc2_w 245, 3) := by decide +kernel
theorem dX6_isStepDue_55 : decode cX6_isStepDue 55 = .ok (.ddiv, 1) := by decide +kernel
theorem dX6_isStepDue_56 : decode cX6_isStepDue 56 = .ok (.invokevirtual 254, 3) := by decide +kernel
theorem dX6_isStepDue_59 : decode cX6_isStepDue 59 = .ok (.ifCond .ne 7, 3) := by decide +kernel
theorem dX6_isStepDue_62 : decode cX6_isStepDue 62 = .ok (.iconst 1, 1) := by decide +kernel
theorem dX6_isStepDue_63 : decode cX6_isStepDue 63 = .ok (.goto 4, 3) := by decide +kernel
theorem dX6_isStepDue_66 : decode cX6_isStepDue 66 = .ok (.iconst 0, 1) := by decide +kernel
theorem dX6_isStepDue_67 : decode cX6_isStepDue 67 = .ok (.ireturn, 1) := by decide +kernel
theorem dX6_isAnyWetterThan_0 : decode cX6_isAnyWetterThan 0 = .ok (.iconst 0, 1) := by decide +kernel
theorem dX6_isAnyWetterThan_1 : decode cX6_isAnyWetterThan 1 = .ok (.istore_n 3, 1) := by decide +kernel
theorem dX6_isAnyWetterThan_2 : decode cX6_isAnyWetterThan 2 = .ok (.iload_n 3, 1) := by decide +kernel
theorem dX6_isAnyWetterThan_3 : decode cX6_isAnyWetterThan 3 = .ok (.aload_n 0, 1) := by decide +kernel
theorem dX6_isAnyWetterThan_4 : decode cX6_isAnyWetterThan 4 = .ok (.getfield 31, 3) := by decide +kernel
theorem dX6_isAnyWetterThan_7 : decode cX6_isAnyWetterThan 7 = .ok (.arraylength, 1) := by decide +kernel
theorem dX6_isAnyWetterThan_8 : decode cX6_isAnyWetterThan 8 = .ok (.if_icmp .ge 37, 3) := by decide +kernel
theorem dX6_isAnyWetterThan_11 : decode cX6_isAnyWetterThan 11 = .ok (.aload_n 0, 1) := by decide +kernel
theorem dX6_isAnyWetterThan_12 : decode cX6_isAnyWetterThan 12 = .ok (.getfield 31, 3) := by decide +kernel
theorem dX6_isAnyWetterThan_15 : decode cX6_isAnyWetterThan 15 = .ok (.iload_n 3, 1) := by decide +kernel
theorem dX6_isAnyWetterThan_16 : decode cX6_isAnyWetterThan 16 = .ok (.aaload, 1) := by decide +kernel
theorem dX6_isAnyWetterThan_17 : decode cX6_isAnyWetterThan 17 = .ok (.getfield 201, 3) := by decide +kernel
theorem dX6_isAnyWetterThan_20 : decode cX6_isAnyWetterThan 20 = .ok (.ifCond .eq 19, 3) := by decide +kernel
theorem dX6_isAnyWetterThan_23 : decode cX6_isAnyWetterThan 23 = .ok (.aload_n 0, 1) := by decide +kernel
theorem dX6_isAnyWetterThan_24 : decode cX6_isAnyWetterThan 24 = .ok (.getfield 31, 3) := by decide +kernel
theorem dX6_isAnyWetterThan_27 : decode cX6_isAnyWetterThan 27 = .ok (.iload_n 3, 1) := by decide +kernel
theorem dX6_isAnyWetterThan_28 : decode cX6_isAnyWetterThan 28 = .ok (.aaload, 1) := by decide +kernel
theorem dX6_isAnyWetterThan_29 : decode cX6_isAnyWetterThan 29 = .ok (.invokevirtual 160, 3) := by decide +kernel
theorem dX6_isAnyWetterThan_32 : decode cX6_isAnyWetterThan 32 = .ok (.dload_n 1, 1) := by decide +kernel
theorem dX6_isAnyWetterThan_33 : decode cX6_isAnyWetterThan 33 = .ok (.dcmp .l, 1) := by decide +kernel
theorem dX6_isAnyWetterThan_34 : decode cX6_isAnyWetterThan 34 = .ok (.ifCond .le 5, 3) := by decide +kernel
theorem dX6_isAnyWetterThan_37 : decode cX6_isAnyWetterThan 37 = .ok (.iconst 1, 1) := by decide +kernel
theorem dX6_isAnyWetterThan_38 : decode cX6_isAnyWetterThan 38 = .ok (.ireturn, 1) := by decide +kernel
theorem dX6_isAnyWetterThan_39 : decode cX6_isAnyWetterThan 39 = .ok (.iinc 3 1, 3) := by decide +kernel
theorem dX6_isAnyWetterThan_42 : decode cX6_isAnyWetterThan 42 = .ok (.goto (-40), 3) := by decide +kernel
theorem dX6_isAnyWetterThan_45 : decode cX6_isAnyWetterThan 45 = .ok (.iconst 0, 1) := by decide +kernel
theorem dX6_isAnyWetterThan_46 : decode cX6_isAnyWetterThan 46 = .ok (.ireturn, 1) := by decide +kernel
theorem dX7_init_0 : decode cX7_init 0 = .ok (.aload_n 0, 1) := by decide +kernel
theorem dX7_init_1 : decode cX7_init 1 = .ok (.invokespecial 1, 3) := by decide +kernel
theorem dX7_init_4 : decode cX7_init 4 = .ok (.aload_n 0, 1) := by decide +kernel
theorem dX7_init_5 : decode cX7_init 5 = .ok (.iconst 4, 1) := by decide +kernel
theorem dX7_init_6 : decode cX7_init 6 = .ok (.newarray .double, 2) := by decide +kernel
theorem dX7_init_8 : decode cX7_init 8 = .ok (.putfield 7, 3) := by decide +kernel
theorem dX7_init_11 : decode cX7_init 11 = .ok (.aload_n 0, 1) := by decide +kernel
theorem dX7_init_12 : decode cX7_init 12 = .ok (.iconst 4, 1) := by decide +kernel
theorem dX7_init_13 : decode cX7_init 13 = .ok (.newarray .double, 2) := by decide +kernel
theorem dX7_init_15 : decode cX7_init 15 = .ok (.putfield 13, 3) := by decide +kernel
theorem dX7_init_18 : decode cX7_init 18 = .ok (.aload_n 0, 1) := by decide +kernel
theorem dX7_init_19 : decode cX7_init 19 = .ok (.ldc2_w 16, 3) := by decide +kernel
theorem dX7_init_22 : decode cX7_init 22 = .ok (.putfield 18, 3) := by decide +kernel
theorem dX7_init_25 : decode cX7_init 25 = .ok (.aload_n 0, 1) := by decide +kernel
theorem dX7_init_26 : decode cX7_init 26 = .ok (.ldc2_w 22, 3) := by decide +kernel
theorem dX7_init_29 : decode cX7_init 29 = .ok (.putfield 24, 3) := by decide +kernel
theorem dX7_init_32 : decode cX7_init 32 = .ok (.aload_n 0, 1) := by decide +kernel
theorem dX7_init_33 : decode cX7_init 33 = .ok (.dconst 1, 1) := by decide +kernel
theorem dX7_init_34 : decode cX7_init 34 = .ok (.putfield 27, 3) := by decide +kernel
theorem dX7_init_37 : decode cX7_init 37 = .ok (.aload_n 0, 1) := by decide +kernel
theorem dX7_init_38 : decode cX7_init 38 = .ok (.bipush 8, 2) := by decide +kernel
theorem dX7_init_40 : decode cX7_init 40 = .ok (.newarray .boolean, 2) := by decide +kernel
theorem dX7_init_42 : decode cX7_init 42 = .ok (.putfield 30, 3) := by decide +kernel
theorem dX7_init_45 : decode cX7_init 45 = .ok (.aload_n 0, 1) := by decide +kernel
theorem dX7_init_46 : decode cX7_init 46 = .ok (.bipush 8, 2) := by decide +kernel
theorem dX7_init_48 : decode cX7_init 48 = .ok (.newarray .double, 2) := by decide +kernel
theorem dX7_init_50 : decode cX7_init 50 = .ok (.putfield 34, 3) := by decide +kernel
theorem dX7_init_53 : decode cX7_init 53 = .ok (.aload_n 0, 1) := by decide +kernel
theorem dX7_init_54 : decode cX7_init 54 = .ok (.bipush 8, 2) := by decide +kernel
theorem dX7_init_56 : decode cX7_init 56 = .ok (.newarray .int, 2) := by decide +kernel
theorem dX7_init_58 : decode cX7_init 58 = .ok (.putfield 37, 3) := by decide +kernel
theorem dX7_init_61 : decode cX7_init 61 = .ok (.aload_n 0, 1) := by decide +kernel
theorem dX7_init_62 : decode cX7_init 62 = .ok (.sipush 128, 3) := by decide +kernel
theorem dX7_init_65 : decode cX7_init 65 = .ok (.newarray .double, 2) := by decide +kernel
theorem dX7_init_67 : decode cX7_init 67 = .ok (.putfield 41, 3) := by decide +kernel
theorem dX7_init_70 : decode cX7_init 70 = .ok (.aload_n 0, 1) := by decide +kernel
theorem dX7_init_71 : decode cX7_init 71 = .ok (.bipush 16, 2) := by decide +kernel
theorem dX7_init_73 : decode cX7_init 73 = .ok (.newarray .double, 2) := by decide +kernel
theorem dX7_init_75 : decode cX7_init 75 = .ok (.putfield 44, 3) := by decide +kernel
theorem dX7_init_78 : decode cX7_init 78 = .ok (.aload_n 0, 1) := by decide +kernel
theorem dX7_init_79 : decode cX7_init 79 = .ok (.bipush 8, 2) := by decide +kernel
theorem dX7_init_81 : decode cX7_init 81 = .ok (.newarray .boolean, 2) := by decide +kernel
theorem dX7_init_83 : decode cX7_init 83 = .ok (.putfield 47, 3) := by decide +kernel
theorem dX7_init_86 : decode cX7_init 86 = .ok (.aload_n 0, 1) := by decide +kernel
theorem dX7_init_87 : decode cX7_init 87 = .ok (.bipush 8, 2) := by decide +kernel
theorem dX7_init_89 : decode cX7_init 89 = .ok (.newarray .double, 2) := by decide +kernel
theorem dX7_init_91 : decode cX7_init 91 = .ok (.putfield 50, 3) := by decide +kernel
theorem dX7_init_94 : decode cX7_init 94 = .ok (.aload_n 0, 1) := by decide +kernel
theorem dX7_init_95 : decode cX7_init 95 = .ok (.bipush 8, 2) := by decide +kernel
theorem dX7_init_97 : decode cX7_init 97 = .ok (.newarray .int, 2) := by decide +kernel
theorem dX7_init_99 : decode cX7_init 99 = .ok (.putfield 53, 3) := by decide +kernel
theorem dX7_init_102 : decode cX7_init 102 = .ok (.aload_n 0, 1) := by decide +kernel
theorem dX7_init_103 : decode cX7_init 103 = .ok (.sipush 200, 3) := by decide +kernel
theorem dX7_init_106 : decode cX7_init 106 = .ok (.newarray .int, 2) := by decide +kernel
theorem dX7_init_108 : decode cX7_init 108 = .ok (.putfield 56, 3) := by decide +kernel
theorem dX7_init_111 : decode cX7_init 111 = .ok (.aload_n 0, 1) := by decide +kernel
theorem dX7_init_112 : decode cX7_init 112 = .ok (.bipush 12, 2) := by decide +kernel
theorem dX7_init_114 : decode cX7_init 114 = .ok (.newarray .boolean, 2) := by decide +kernel
theorem dX7_init_116 : decode cX7_init 116 = .ok (.putfield 59, 3) := by decide +kernel
theorem dX7_init_119 : decode cX7_init 119 = .ok (.aload_n 0, 1) := by decide +kernel
theorem dX7_init_120 : decode cX7_init 120 = .ok (.bipush 12, 2) := by decide +kernel
theorem dX7_init_122 : decode cX7_init 122 = .ok (.newarray .int, 2) := by decide +kernel
theorem dX7_init_124 : decode cX7_init 124 = .ok (.putfield 62, 3) := by decide +kernel
theorem dX7_init_127 : decode cX7_init 127 = .ok (.aload_n 0, 1) := by decide +kernel
theorem dX7_init_128 : decode cX7_init 128 = .ok (.bipush 12, 2) := by decide +kernel
theorem dX7_init_130 : decode cX7_init 130 = .ok (.newarray .int, 2) := by decide +kernel
theorem dX7_init_132 : decode cX7_init 132 = .ok (.putfield 65, 3) := by decide +kernel
theorem dX7_init_135 : decode cX7_init 135 = .ok (.aload_n 0, 1) := by decide +kernel
theorem dX7_init_136 : decode cX7_init 136 = .ok (.bipush 12, 2) := by decide +kernel
theorem dX7_init_138 : decode cX7_init 138 = .ok (.newarray .int, 2) := by decide +kernel
theorem dX7_init_140 : decode cX7_init 140 = .ok (.putfield 68, 3) := by decide +kernel
theorem dX7_init_143 : decode cX7_init 143 = .ok (.aload_n 0, 1) := by decide +kernel
theorem dX7_init_144 : decode cX7_init 144 = .ok (.iload_n 1, 1) := by decide +kernel
theorem dX7_init_145 : decode cX7_init 145 = .ok (.iconst 1, 1) := by decide +kernel
theorem dX7_init_146 : decode cX7_init 146 = .ok (.if_icmp .ge 7, 3) := by decide +kernel
theorem dX7_init_149 : decode cX7_init 149 = .ok (.iconst 1, 1) := by decide +kernel
theorem dX7_init_150 : decode cX7_init 150 = .ok (.goto 15, 3) := by decide +kernel
theorem dX7_init_153 : decode cX7_init 153 = .ok (.iload_n 1, 1) := by decide +kernel
theorem dX7_init_154 : decode cX7_init 154 = .ok (.bipush 16, 2) := by decide +kernel
theorem dX7_init_156 : decode cX7_init 156 = .ok (.if_icmp .le 8, 3) := by decide +kernel
theorem dX7_init_159 : decode cX7_init 159 = .ok (.bipush 16, 2) := by decide +kernel
theorem dX7_init_161 : decode cX7_init 161 = .ok (.goto 4, 3) := by decide +kernel
theorem dX7_init_164 : decode cX7_init 164 = .ok (.iload_n 1, 1) := by decide +kernel
theorem dX7_init_165 : decode cX7_init 165 = .ok (.putfield 71, 3) := by decide +kernel
theorem dX7_init_168 : decode cX7_init 168 = .ok (.aload_n 0, 1) := by decide +kernel
theorem dX7_init_169 : decode cX7_init 169 = .ok (.iload_n 2, 1) := by decide +kernel
theorem dX7_init_170 : decode cX7_init 170 = .ok (.iconst 1, 1) := by decide +kernel
theorem dX7_init_171 : decode cX7_init 171 = .ok (.if_icmp .ge 7, 3) := by decide +kernel
theorem dX7_init_174 : decode cX7_init 174 = .ok (.iconst 1, 1) := by decide +kernel
theorem dX7_init_175 : decode cX7_init 175 = .ok (.goto 15, 3) := by decide +kernel
theorem dX7_init_178 : decode cX7_init 178 = .ok (.iload_n 2, 1) := by decide +kernel
theorem dX7_init_179 : decode cX7_init 179 = .ok (.bipush 8, 2) := by decide +kernel
theorem dX7_init_181 : decode cX7_init 181 = .ok (.if_icmp .le 8, 3) := by decide +kernel
theorem dX7_init_184 : decode cX7_init 184 = .ok (.bipush 8, 2) := by decide +kernel
theorem dX7_init_186 : decode cX7_init 186 = .ok (.goto 4, 3) := by decide +kernel
theorem dX7_init_189 : decode cX7_init 189 = .ok (.iload_n 2, 1) := by decide +kernel
theorem dX7_init_190 : decode cX7_init 190 = .ok (.putfield 75, 3) := by decide +kernel
theorem dX7_init_193 : decode cX7_init 193 = .ok (.return_, 1) := by decide +kernel
theorem dX7_thrown_0 : decode cX7_thrown 0 = .ok (.aload_n 0, 1) := by decide +kernel
theorem dX7_thrown_1 : decode cX7_thrown 1 = .ok (.getfield 78, 3) := by decide +kernel
theorem dX7_thrown_4 : decode cX7_thrown 4 = .ok (.ireturn, 1) := by decide +kernel
theorem dX7_noBoard_0 : decode cX7_noBoard 0 = .ok (.iload_n 1, 1) := by decide +kernel
theorem dX7_noBoard_1 : decode cX7_noBoard 1 = .ok (.ifCond .lt 11, 3) := by decide +kernel
theorem dX7_noBoard_4 : decode cX7_noBoard 4 = .ok (.iload_n 1, 1) := by decide +kernel
theorem dX7_noBoard_5 : decode cX7_noBoard 5 = .ok (.aload_n 0, 1) := by decide +kernel
theorem dX7_noBoard_6 : decode cX7_noBoard 6 = .ok (.getfield 75, 3) := by decide +kernel
theorem dX7_noBoard_9 : decode cX7_noBoard 9 = .ok (.if_icmp .lt 7, 3) := by decide +kernel
theorem dX7_noBoard_12 : decode cX7_noBoard 12 = .ok (.iconst 1, 1) := by decide +kernel
theorem dX7_noBoard_13 : decode cX7_noBoard 13 = .ok (.goto 4, 3) := by decide +kernel
theorem dX7_noBoard_16 : decode cX7_noBoard 16 = .ok (.iconst 0, 1) := by decide +kernel
theorem dX7_noBoard_17 : decode cX7_noBoard 17 = .ok (.ireturn, 1) := by decide +kernel
theorem dX7_noLayer_0 : decode cX7_noLayer 0 = .ok (.aload_n 0, 1) := by decide +kernel
theorem dX7_noLayer_1 : decode cX7_noLayer 1 = .ok (.iload_n 1, 1) := by decide +kernel
theorem dX7_noLayer_2 : decode cX7_noLayer 2 = .ok (.invokevirtual 81, 3) := by decide +kernel
theorem dX7_noLayer_5 : decode cX7_noLayer 5 = .ok (.ifCond .ne 15, 3) := by decide +kernel
theorem dX7_noLayer_8 : decode cX7_noLayer 8 = .ok (.iload_n 2, 1) := by decide +kernel
theorem dX7_noLayer_9 : decode cX7_noLayer 9 = .ok (.ifCond .lt 11, 3) := by decide +kernel
theorem dX7_noLayer_12 : decode cX7_noLayer 12 = .ok (.iload_n 2, 1) := by decide +kernel
theorem dX7_noLayer_13 : decode cX7_noLayer 13 = .ok (.aload_n 0, 1) := by decide +kernel
theorem dX7_noLayer_14 : decode cX7_noLayer 14 = .ok (.getfield 71, 3) := by decide +kernel
theorem dX7_noLayer_17 : decode cX7_noLayer 17 = .ok (.if_icmp .lt 7, 3) := by decide +kernel
theorem dX7_noLayer_20 : decode cX7_noLayer 20 = .ok (.iconst 1, 1) := by decide +kernel
theorem dX7_noLayer_21 : decode cX7_noLayer 21 = .ok (.goto 4, 3) := by decide +kernel
theorem dX7_noLayer_24 : decode cX7_noLayer 24 = .ok (.iconst 0, 1) := by decide +kernel
theorem dX7_noLayer_25 : decode cX7_noLayer 25 = .ok (.ireturn, 1) := by decide +kernel
theorem dX7_isIn_0 : decode cX7_isIn 0 = .ok (.dload_n 0, 1) := by decide +kernel
theorem dX7_isIn_1 : decode cX7_isIn 1 = .ok (.dload_n 2, 1) := by decide +kernel
theorem dX7_isIn_2 : decode cX7_isIn 2 = .ok (.dcmp .l, 1) := by decide +kernel
theorem dX7_isIn_3 : decode cX7_isIn 3 = .ok (.ifCond .lt 14, 3) := by decide +kernel
theorem dX7_isIn_6 : decode cX7_isIn 6 = .ok (.dload_n 0, 1) := by decide +kernel
theorem dX7_isIn_7 : decode cX7_isIn 7 = .ok (.dload 4, 2) := by decide +kernel
theorem dX7_isIn_9 : decode cX7_isIn 9 = .ok (.dcmp .g, 1) := by decide +kernel
theorem dX7_isIn_10 : decode cX7_isIn 10 = .ok (.ifCond .gt 7, 3) := by decide +kernel
theorem dX7_isIn_13 : decode cX7_isIn 13 = .ok (.iconst 1, 1) := by decide +kernel
theorem dX7_isIn_14 : decode cX7_isIn 14 = .ok (.goto 4, 3) := by decide +kernel
theorem dX7_isIn_17 : decode cX7_isIn 17 = .ok (.iconst 0, 1) := by decide +kernel
theorem dX7_isIn_18 : decode cX7_isIn 18 = .ok (.ireturn, 1) := by decide +kernel
theorem dX7_board_0 : decode cX7_board 0 = .ok (.aload_n 0, 1) := by decide +kernel
theorem dX7_board_1 : decode cX7_board 1 = .ok (.aload_n 0, 1) := by decide +kernel
theorem dX7_board_2 : decode cX7_board 2 = .ok (.iload_n 1, 1) := by decide +kernel
theorem dX7_board_3 : decode cX7_board 3 = .ok (.invokevirtual 81, 3) := by decide +kernel
theorem dX7_board_6 : decode cX7_board 6 = .ok (.ifCond .ne 14, 3) := by decide +kernel
theorem dX7_board_9 : decode cX7_board 9 = .ok (.iload 6, 2) := by decide +kernel
theorem dX7_board_11 : decode cX7_board 11 = .ok (.ifCond .lt 9, 3) := by decide +kernel
theorem dX7_board_14 : decode cX7_board 14 = .ok (.iload 6, 2) := by decide +kernel
theorem dX7_board_16 : decode cX7_board 16 = .ok (.iconst 4, 1) := by decide +kernel
theorem dX7_board_17 : decode cX7_board 17 = .ok (.if_icmp .lt 7, 3) := by decide +kernel
theorem dX7_board_20 : decode cX7_board 20 = .ok (.iconst 1, 1) := by decide +kernel
theorem dX7_board_21 : decode cX7_board 21 = .ok (.goto 31, 3) := by decide +kernel
theorem dX7_board_24 : decode cX7_board 24 = .ok (.dload_n 2, 1) := by decide +kernel
theorem dX7_board_25 : decode cX7_board 25 = .ok (.dconst 1, 1) := by decide +kernel
theorem dX7_board_26 : decode cX7_board 26 = .ok (.ldc2_w 85, 3) := by decide +kernel
theorem dX7_board_29 : decode cX7_board 29 = .ok (.invokestatic 87, 3) := by decide +kernel
theorem dX7_board_32 : decode cX7_board 32 = .ok (.ifCond .eq 19, 3) := by decide +kernel
theorem dX7_board_35 : decode cX7_board 35 = .ok (.dload 4, 2) := by decide +kernel
theorem dX7_board_37 : decode cX7_board 37 = .ok (.dconst 0, 1) := by decide +kernel
theorem dX7_board_38 : decode cX7_board 38 = .ok (.ldc2_w 91, 3) := by decide +kernel
theorem dX7_board_41 : decode cX7_board 41 = .ok (.invokestatic 87, 3) := by decide +kernel
theorem dX7_board_44 : decode cX7_board 44 = .ok (.ifCond .eq 7, 3) := by decide +kernel
theorem dX7_board_47 : decode cX7_board 47 = .ok (.iconst 0, 1) := by decide +kernel
theorem dX7_board_48 : decode cX7_board 48 = .ok (.goto 4, 3) := by decide +kernel
theorem dX7_board_51 : decode cX7_board 51 = .ok (.iconst 2, 1) := by decide +kernel
theorem dX7_board_52 : decode cX7_board 52 = .ok (.putfield 78, 3) := by decide +kernel
theorem dX7_board_55 : decode cX7_board 55 = .ok (.aload_n 0, 1) := by decide +kernel
theorem dX7_board_56 : decode cX7_board 56 = .ok (.getfield 78, 3) := by decide +kernel
theorem dX7_board_59 : decode cX7_board 59 = .ok (.ifCond .le 4, 3) := by decide +kernel
theorem dX7_board_62 : decode cX7_board 62 = .ok (.return_, 1) := by decide +kernel
theorem dX7_board_63 : decode cX7_board 63 = .ok (.aload_n 0, 1) := by decide +kernel
theorem dX7_board_64 : decode cX7_board 64 = .ok (.getfield 30, 3) := by decide +kernel
theorem dX7_board_67 : decode cX7_board 67 = .ok (.iload_n 1, 1) := by decide +kernel
theorem dX7_board_68 : decode cX7_board 68 = .ok (.iconst 1, 1) := by decide +kernel
theorem dX7_board_69 : decode cX7_board 69 = .ok (.bastore, 1) := by decide +kernel
theorem dX7_board_70 : decode cX7_board 70 = .ok (.aload_n 0, 1) := by decide +kernel
theorem dX7_board_71 : decode cX7_board 71 = .ok (.getfield 34, 3) := by decide +kernel
theorem dX7_board_74 : decode cX7_board 74 = .ok (.iload_n 1, 1) := by decide +kernel
theorem dX7_board_75 : decode cX7_board 75 = .ok (.dload_n 2, 1) := by decide +kernel
theorem dX7_board_76 : decode cX7_board 76 = .ok (.aload_n 0, 1) := by decide +kernel
theorem dX7_board_77 : decode cX7_board 77 = .ok (.getfield 71, 3) := by decide +kernel
theorem dX7_board_80 : decode cX7_board 80 = .ok (.i2d, 1) := by decide +kernel
theorem dX7_board_81 : decode cX7_board 81 = .ok (.ddiv, 1) := by decide +kernel
theorem dX7_board_82 : decode cX7_board 82 = .ok (.dastore, 1) := by decide +kernel
theorem dX7_board_83 : decode cX7_board 83 = .ok (.aload_n 0, 1) := by decide +kernel
theorem dX7_board_84 : decode cX7_board 84 = .ok (.getfield 37, 3) := by decide +kernel
theorem dX7_board_87 : decode cX7_board 87 = .ok (.iload_n 1, 1) := by decide +kernel
theorem dX7_board_88 : decode cX7_board 88 = .ok (.iload 6, 2) := by decide +kernel
theorem dX7_board_90 : decode cX7_board 90 = .ok (.iastore, 1) := by decide +kernel
theorem dX7_board_91 : decode cX7_board 91 = .ok (.aload_n 0, 1) := by decide +kernel
theorem dX7_board_92 : decode cX7_board 92 = .ok (.getfield 47, 3) := by decide +kernel
theorem dX7_board_95 : decode cX7_board 95 = .ok (.iload_n 1, 1) := by decide +kernel
theorem dX7_board_96 : decode cX7_board 96 = .ok (.iconst 0, 1) := by decide +kernel
theorem dX7_board_97 : decode cX7_board 97 = .ok (.bastore, 1) := by decide +kernel
theorem dX7_board_98 : decode cX7_board 98 = .ok (.aload_n 0, 1) := by decide +kernel
theorem dX7_board_99 : decode cX7_board 99 = .ok (.getfield 53, 3) := by decide +kernel
theorem dX7_board_102 : decode cX7_board 102 = .ok (.iload_n 1, 1) := by decide +kernel
theorem dX7_board_103 : decode cX7_board 103 = .ok (.iconst (-1), 1) := by decide +kernel
theorem dX7_board_104 : decode cX7_board 104 = .ok (.iastore, 1) := by decide +kernel
theorem dX7_board_105 : decode cX7_board 105 = .ok (.iconst 0, 1) := by decide +kernel
theorem dX7_board_106 : decode cX7_board 106 = .ok (.istore 7, 2) := by decide +kernel
theorem dX7_board_108 : decode cX7_board 108 = .ok (.iload 7, 2) := by decide +kernel
theorem dX7_board_110 : decode cX7_board 110 = .ok (.aload_n 0, 1) := by decide +kernel
theorem dX7_board_111 : decode cX7_board 111 = .ok (.getfield 71, 3) := by decide +kernel
theorem dX7_board_114 : decode cX7_board 114 = .ok (.if_icmp .ge 23, 3) := by decide +kernel
theorem dX7_board_117 : decode cX7_board 117 = .ok (.aload_n 0, 1) := by decide +kernel
theorem dX7_board_118 : decode cX7_board 118 = .ok (.getfield 41, 3) := by decide +kernel
theorem dX7_board_121 : decode cX7_board 121 = .ok (.bipush 16, 2) := by decide +kernel
theorem dX7_board_123 : decode cX7_board 123 = .ok (.iload_n 1, 1) := by decide +kernel
theorem dX7_board_124 : decode cX7_board 124 = .ok (.imul, 1) := by decide +kernel
theorem dX7_board_125 : decode cX7_board 125 = .ok (.iload 7, 2) := by decide +kernel
theorem dX7_board_127 : decode cX7_board 127 = .ok (.iadd, 1) := by decide +kernel
theorem dX7_board_128 : decode cX7_board 128 = .ok (.dload 4, 2) := by decide +kernel
theorem dX7_board_130 : decode cX7_board 130 = .ok (.dastore, 1) := by decide +kernel
theorem dX7_board_131 : decode cX7_board 131 = .ok (.iinc 7 1, 3) := by decide +kernel
theorem dX7_board_134 : decode cX7_board 134 = .ok (.goto (-26), 3) := by decide +kernel
theorem dX7_board_137 : decode cX7_board 137 = .ok (.return_, 1) := by decide +kernel
theorem dX7_rate_0 : decode cX7_rate 0 = .ok (.aload_n 0, 1) := by decide +kernel
theorem dX7_rate_1 : decode cX7_rate 1 = .ok (.iload_n 1, 1) := by decide +kernel
theorem dX7_rate_2 : decode cX7_rate 2 = .ok (.ifCond .lt 8, 3) := by decide +kernel
theorem dX7_rate_5 : decode cX7_rate 5 = .ok (.iload_n 1, 1) := by decide +kernel
theorem dX7_rate_6 : decode cX7_rate 6 = .ok (.iconst 4, 1) := by decide +kernel
theorem dX7_rate_7 : decode cX7_rate 7 = .ok (.if_icmp .lt 7, 3) := by decide +kernel
theorem dX7_rate_10 : decode cX7_rate 10 = .ok (.iconst 1, 1) := by decide +kernel
theorem dX7_rate_11 : decode cX7_rate 11 = .ok (.goto 31, 3) := by decide +kernel
theorem dX7_rate_14 : decode cX7_rate 14 = .ok (.dload_n 2, 1) := by decide +kernel
theorem dX7_rate_15 : decode cX7_rate 15 = .ok (.dconst 0, 1) := by decide +kernel
theorem dX7_rate_16 : decode cX7_rate 16 = .ok (.ldc2_w 93, 3) := by decide +kernel
theorem dX7_rate_19 : decode cX7_rate 19 = .ok (.invokestatic 87, 3) := by decide +kernel
theorem dX7_rate_22 : decode cX7_rate 22 = .ok (.ifCond .eq 19, 3) := by decide +kernel
theorem dX7_rate_25 : decode cX7_rate 25 = .ok (.dload 4, 2) := by decide +kernel
theorem dX7_rate_27 : decode cX7_rate 27 = .ok (.dconst 0, 1) := by decide +kernel
theorem dX7_rate_28 : decode cX7_rate 28 = .ok (.ldc2_w 93, 3) := by decide +kernel
theorem dX7_rate_31 : decode cX7_rate 31 = .ok (.invokestatic 87, 3) := by decide +kernel
theorem dX7_rate_34 : decode cX7_rate 34 = .ok (.ifCond .eq 7, 3) := by decide +kernel
theorem dX7_rate_37 : decode cX7_rate 37 = .ok (.iconst 0, 1) := by decide +kernel
theorem dX7_rate_38 : decode cX7_rate 38 = .ok (.goto 4, 3) := by decide +kernel
theorem dX7_rate_41 : decode cX7_rate 41 = .ok (.iconst 2, 1) := by decide +kernel
theorem dX7_rate_42 : decode cX7_rate 42 = .ok (.putfield 78, 3) := by decide +kernel
theorem dX7_rate_45 : decode cX7_rate 45 = .ok (.aload_n 0, 1) := by decide +kernel
theorem dX7_rate_46 : decode cX7_rate 46 = .ok (.getfield 78, 3) := by decide +kernel
theorem dX7_rate_49 : decode cX7_rate 49 = .ok (.ifCond .ne 18, 3) := by decide +kernel
theorem dX7_rate_52 : decode cX7_rate 52 = .ok (.aload_n 0, 1) := by decide +kernel
theorem dX7_rate_53 : decode cX7_rate 53 = .ok (.getfield 7, 3) := by decide +kernel
theorem dX7_rate_56 : decode cX7_rate 56 = .ok (.iload_n 1, 1) := by decide +kernel
theorem dX7_rate_57 : decode cX7_rate 57 = .ok (.dload_n 2, 1) := by decide +kernel
theorem dX7_rate_58 : decode cX7_rate 58 = .ok (.dastore, 1) := by decide +kernel
theorem dX7_rate_59 : decode cX7_rate 59 = .ok (.aload_n 0, 1) := by decide +kernel
theorem dX7_rate_60 : decode cX7_rate 60 = .ok (.getfield 13, 3) := by decide +kernel
theorem dX7_rate_63 : decode cX7_rate 63 = .ok (.iload_n 1, 1) := by decide +kernel
theorem dX7_rate_64 : decode cX7_rate 64 = .ok (.dload 4, 2) := by decide +kernel
theorem dX7_rate_66 : decode cX7_rate 66 = .ok (.dastore, 1) := by decide +kernel
theorem dX7_rate_67 : decode cX7_rate 67 = .ok (.return_, 1) := by decide +kernel
theorem dX7_air_0 : decode cX7_air 0 = .ok (.aload_n 0, 1) := by decide +kernel
theorem dX7_air_1 : decode cX7_air 1 = .ok (.dload_n 1, 1) := by decide +kernel
theorem dX7_air_2 : decode cX7_air 2 = .ok (.ldc2_w 95, 3) := by decide +kernel
theorem dX7_air_5 : decode cX7_air 5 = .ok (.ldc2_w 85, 3) := by decide +kernel
theorem dX7_air_8 : decode cX7_air 8 = .ok (.invokestatic 87, 3) := by decide +kernel
theorem dX7_air_11 : decode cX7_air 11 = .ok (.ifCond .eq 28, 3) := by decide +kernel
theorem dX7_air_14 : decode cX7_air 14 = .ok (.dload_n 3, 1) := by decide +kernel
theorem dX7_air_15 : decode cX7_air 15 = .ok (.dconst 0, 1) := by decide +kernel
theorem dX7_air_16 : decode cX7_air 16 = .ok (.dconst 1, 1) := by decide +kernel
theorem dX7_air_17 : decode cX7_air 17 = .ok (.invokestatic 87, 3) := by decide +kernel
theorem dX7_air_20 : decode cX7_air 20 = .ok (.ifCond .eq 19, 3) := by decide +kernel
theorem dX7_air_23 : decode cX7_air 23 = .ok (.dload 5, 2) := by decide +kernel
theorem dX7_air_25 : decode cX7_air 25 = .ok (.dconst 0, 1) := by decide +kernel
theorem dX7_air_26 : decode cX7_air 26 = .ok (.ldc2_w 97, 3) := by decide +kernel
theorem dX7_air_29 : decode cX7_air 29 = .ok (.invokestatic 87, 3) := by decide +kernel
theorem dX7_air_32 : decode cX7_air 32 = .ok (.ifCond .eq 7, 3) := by decide +kernel
theorem dX7_air_35 : decode cX7_air 35 = .ok (.iconst 0, 1) := by decide +kernel
theorem dX7_air_36 : decode cX7_air 36 = .ok (.goto 4, 3) := by decide +kernel
theorem dX7_air_39 : decode cX7_air 39 = .ok (.iconst 1, 1) := by decide +kernel
theorem dX7_air_40 : decode cX7_air 40 = .ok (.putfield 78, 3) := by decide +kernel
theorem dX7_air_43 : decode cX7_air 43 = .ok (.aload_n 0, 1) := by decide +kernel
theorem dX7_air_44 : decode cX7_air 44 = .ok (.getfield 78, 3) := by decide +kernel
theorem dX7_air_47 : decode cX7_air 47 = .ok (.ifCond .ne 19, 3) := by decide +kernel
theorem dX7_air_50 : decode cX7_air 50 = .ok (.aload_n 0, 1) := by decide +kernel
theorem dX7_air_51 : decode cX7_air 51 = .ok (.dload_n 1, 1) := by decide +kernel
theorem dX7_air_52 : decode cX7_air 52 = .ok (.putfield 18, 3) := by decide +kernel
theorem dX7_air_55 : decode cX7_air 55 = .ok (.aload_n 0, 1) := by decide +kernel
theorem dX7_air_56 : decode cX7_air 56 = .ok (.dload_n 3, 1) := by decide +kernel
theorem dX7_air_57 : decode cX7_air 57 = .ok (.putfield 24, 3) := by decide +kernel
theorem dX7_air_60 : decode cX7_air 60 = .ok (.aload_n 0, 1) := by decide +kernel
theorem dX7_air_61 : decode cX7_air 61 = .ok (.dload 5, 2) := by decide +kernel
theorem dX7_air_63 : decode cX7_air 63 = .ok (.putfield 27, 3) := by decide +kernel
theorem dX7_air_66 : decode cX7_air 66 = .ok (.return_, 1) := by decide +kernel
theorem dX7_vent_0 : decode cX7_vent 0 = .ok (.aload_n 0, 1) := by decide +kernel
theorem dX7_vent_1 : decode cX7_vent 1 = .ok (.dload_n 1, 1) := by decide +kernel
theorem dX7_vent_2 : decode cX7_vent 2 = .ok (.dconst 0, 1) := by decide +kernel
theorem dX7_vent_3 : decode cX7_vent 3 = .ok (.dconst 1, 1) := by decide +kernel
theorem dX7_vent_4 : decode cX7_vent 4 = .ok (.invokestatic 87, 3) := by decide +kernel
theorem dX7_vent_7 : decode cX7_vent 7 = .ok (.ifCond .eq 7, 3) := by decide +kernel
theorem dX7_vent_10 : decode cX7_vent 10 = .ok (.iconst 0, 1) := by decide +kernel
theorem dX7_vent_11 : decode cX7_vent 11 = .ok (.goto 4, 3) := by decide +kernel
theorem dX7_vent_14 : decode cX7_vent 14 = .ok (.iconst 1, 1) := by decide +kernel
theorem dX7_vent_15 : decode cX7_vent 15 = .ok (.putfield 78, 3) := by decide +kernel
theorem dX7_vent_18 : decode cX7_vent 18 = .ok (.aload_n 0, 1) := by decide +kernel
theorem dX7_vent_19 : decode cX7_vent 19 = .ok (.aload_n 0, 1) := by decide +kernel
theorem dX7_vent_20 : decode cX7_vent 20 = .ok (.getfield 78, 3) := by decide +kernel
theorem dX7_vent_23 : decode cX7_vent 23 = .ok (.ifCond .le 10, 3) := by decide +kernel
theorem dX7_vent_26 : decode cX7_vent 26 = .ok (.aload_n 0, 1) := by decide +kernel
theorem dX7_vent_27 : decode cX7_vent 27 = .ok (.getfield 99, 3) := by decide +kernel
theorem dX7_vent_30 : decode cX7_vent 30 = .ok (.goto 4, 3) := by decide +kernel
theorem dX7_vent_33 : decode cX7_vent 33 = .ok (.dload_n 1, 1) := by decide +kernel
theorem dX7_vent_34 : decode cX7_vent 34 = .ok (.putfield 99, 3) := by decide +kernel
theorem dX7_vent_37 : decode cX7_vent 37 = .ok (.return_, 1) := by decide +kernel
theorem dX7_soak_0 : decode cX7_soak 0 = .ok (.aload_n 0, 1) := by decide +kernel
theorem dX7_soak_1 : decode cX7_soak 1 = .ok (.aload_n 0, 1) := by decide +kernel
theorem dX7_soak_2 : decode cX7_soak 2 = .ok (.iload_n 1, 1) := by decide +kernel
theorem dX7_soak_3 : decode cX7_soak 3 = .ok (.iload_n 2, 1) := by decide +kernel
theorem dX7_soak_4 : decode cX7_soak 4 = .ok (.invokevirtual 102, 3) := by decide +kernel
theorem dX7_soak_7 : decode cX7_soak 7 = .ok (.ifCond .eq 7, 3) := by decide +kernel
theorem dX7_soak_10 : decode cX7_soak 10 = .ok (.iconst 1, 1) := by decide +kernel
theorem dX7_soak_11 : decode cX7_soak 11 = .ok (.goto 32, 3) := by decide +kernel
theorem dX7_soak_14 : decode cX7_soak 14 = .ok (.dload_n 3, 1) := by decide +kernel
theorem dX7_soak_15 : decode cX7_soak 15 = .ok (.dconst 0, 1) := by decide +kernel
theorem dX7_soak_16 : decode cX7_soak 16 = .ok (.ldc2_w 91, 3) := by decide +kernel
theorem dX7_soak_19 : decode cX7_soak 19 = .ok (.invokestatic 87, 3) := by decide +kernel
theorem dX7_soak_22 : decode cX7_soak 22 = .ok (.ifCond .ne 7, 3) := by decide +kernel
theorem dX7_soak_25 : decode cX7_soak 25 = .ok (.iconst 2, 1) := by decide +kernel
theorem dX7_soak_26 : decode cX7_soak 26 = .ok (.goto 17, 3) := by decide +kernel
theorem dX7_soak_29 : decode cX7_soak 29 = .ok (.aload_n 0, 1) := by decide +kernel
theorem dX7_soak_30 : decode cX7_soak 30 = .ok (.getfield 30, 3) := by decide +kernel
theorem dX7_soak_33 : decode cX7_soak 33 = .ok (.iload_n 1, 1) := by decide +kernel
theorem dX7_soak_34 : decode cX7_soak 34 = .ok (.baload, 1) := by decide +kernel
theorem dX7_soak_35 : decode cX7_soak 35 = .ok (.ifCond .eq 7, 3) := by decide +kernel
theorem dX7_soak_38 : decode cX7_soak 38 = .ok (.iconst 0, 1) := by decide +kernel
theorem dX7_soak_39 : decode cX7_soak 39 = .ok (.goto 4, 3) := by decide +kernel
theorem dX7_soak_42 : decode cX7_soak 42 = .ok (.iconst 3, 1) := by decide +kernel
theorem dX7_soak_43 : decode cX7_soak 43 = .ok (.putfield 78, 3) := by decide +kernel
theorem dX7_soak_46 : decode cX7_soak 46 = .ok (.aload_n 0, 1) := by decide +kernel
theorem dX7_soak_47 : decode cX7_soak 47 = .ok (.getfield 78, 3) := by decide +kernel
theorem dX7_soak_50 : decode cX7_soak 50 = .ok (.ifCond .ne 15, 3) := by decide +kernel
theorem dX7_soak_53 : decode cX7_soak 53 = .ok (.aload_n 0, 1) := by decide +kernel
theorem dX7_soak_54 : decode cX7_soak 54 = .ok (.getfield 41, 3) := by decide +kernel
theorem dX7_soak_57 : decode cX7_soak 57 = .ok (.bipush 16, 2) := by decide +kernel
theorem dX7_soak_59 : decode cX7_soak 59 = .ok (.iload_n 1, 1) := by decide +kernel
theorem dX7_soak_60 : decode cX7_soak 60 = .ok (.imul, 1) := by decide +kernel
theorem dX7_soak_61 : decode cX7_soak 61 = .ok (.iload_n 2, 1) := by decide +kernel
theorem dX7_soak_62 : decode cX7_soak 62 = .ok (.iadd, 1) := by decide +kernel
theorem dX7_soak_63 : decode cX7_soak 63 = .ok (.dload_n 3, 1) := by decide +kernel
theorem dX7_soak_64 : decode cX7_soak 64 = .ok (.dastore, 1) := by decide +kernel
theorem dX7_soak_65 : decode cX7_soak 65 = .ok (.return_, 1) := by decide +kernel
theorem dX7_unit_0 : decode cX7_unit 0 = .ok (.aload_n 0, 1) := by decide +kernel
theorem dX7_unit_1 : decode cX7_unit 1 = .ok (.iconst 0, 1) := by decide +kernel
theorem dX7_unit_2 : decode cX7_unit 2 = .ok (.putfield 78, 3) := by decide +kernel
theorem dX7_unit_5 : decode cX7_unit 5 = .ok (.iload_n 1, 1) := by decide +kernel
theorem dX7_unit_6 : decode cX7_unit 6 = .ok (.bipush 32, 2) := by decide +kernel
theorem dX7_unit_8 : decode cX7_unit 8 = .ok (.if_icmp .lt 19, 3) := by decide +kernel
theorem dX7_unit_11 : decode cX7_unit 11 = .ok (.iload_n 1, 1) := by decide +kernel
theorem dX7_unit_12 : decode cX7_unit 12 = .ok (.bipush 126, 2) := by decide +kernel
theorem dX7_unit_14 : decode cX7_unit 14 = .ok (.if_icmp .gt 13, 3) := by decide +kernel
theorem dX7_unit_17 : decode cX7_unit 17 = .ok (.aload_n 0, 1) := by decide +kernel
theorem dX7_unit_18 : decode cX7_unit 18 = .ok (.getfield 106, 3) := by decide +kernel
theorem dX7_unit_21 : decode cX7_unit 21 = .ok (.sipush 200, 3) := by decide +kernel
theorem dX7_unit_24 : decode cX7_unit 24 = .ok (.if_icmp .ne 5, 3) := by decide +kernel
theorem dX7_unit_27 : decode cX7_unit 27 = .ok (.iconst 0, 1) := by decide +kernel
theorem dX7_unit_28 : decode cX7_unit 28 = .ok (.ireturn, 1) := by decide +kernel
theorem dX7_unit_29 : decode cX7_unit 29 = .ok (.aload_n 0, 1) := by decide +kernel
theorem dX7_unit_30 : decode cX7_unit 30 = .ok (.getfield 56, 3) := by decide +kernel
theorem dX7_unit_33 : decode cX7_unit 33 = .ok (.aload_n 0, 1) := by decide +kernel
theorem dX7_unit_34 : decode cX7_unit 34 = .ok (.getfield 106, 3) := by decide +kernel
theorem dX7_unit_37 : decode cX7_unit 37 = .ok (.iload_n 1, 1) := by decide +kernel
theorem dX7_unit_38 : decode cX7_unit 38 = .ok (.iastore, 1) := by decide +kernel
theorem dX7_unit_39 : decode cX7_unit 39 = .ok (.aload_n 0, 1) := by decide +kernel
theorem dX7_unit_40 : decode cX7_unit 40 = .ok (.dup, 1) := by decide +kernel
theorem dX7_unit_41 : decode cX7_unit 41 = .ok (.getfield 106, 3) := by decide +kernel
theorem dX7_unit_44 : decode cX7_unit 44 = .ok (.iconst 1, 1) := by decide +kernel
theorem dX7_unit_45 : decode cX7_unit 45 = .ok (.iadd, 1) := by decide +kernel
theorem dX7_unit_46 : decode cX7_unit 46 = .ok (.putfield 106, 3) := by decide +kernel
theorem dX7_unit_49 : decode cX7_unit 49 = .ok (.iconst 1, 1) := by decide +kernel
theorem dX7_unit_50 : decode cX7_unit 50 = .ok (.ireturn, 1) := by decide +kernel
theorem dX7_fail_0 : decode cX7_fail 0 = .ok (.aload_n 0, 1) := by decide +kernel
theorem dX7_fail_1 : decode cX7_fail 1 = .ok (.iload_n 1, 1) := by decide +kernel
theorem dX7_fail_2 : decode cX7_fail 2 = .ok (.putfield 109, 3) := by decide +kernel
theorem dX7_fail_5 : decode cX7_fail 5 = .ok (.iconst 0, 1) := by decide +kernel
theorem dX7_fail_6 : decode cX7_fail 6 = .ok (.ireturn, 1) := by decide +kernel
theorem dX7_pass_0 : decode cX7_pass 0 = .ok (.aload_n 0, 1) := by decide +kernel
theorem dX7_pass_1 : decode cX7_pass 1 = .ok (.getfield 112, 3) := by decide +kernel
theorem dX7_pass_4 : decode cX7_pass 4 = .ok (.aload_n 0, 1) := by decide +kernel
theorem dX7_pass_5 : decode cX7_pass 5 = .ok (.getfield 106, 3) := by decide +kernel
theorem dX7_pass_8 : decode cX7_pass 8 = .ok (.if_icmp .ge 16, 3) := by decide +kernel
theorem dX7_pass_11 : decode cX7_pass 11 = .ok (.aload_n 0, 1) := by decide +kernel
theorem dX7_pass_12 : decode cX7_pass 12 = .ok (.getfield 56, 3) := by decide +kernel
theorem dX7_pass_15 : decode cX7_pass 15 = .ok (.aload_n 0, 1) := by decide +kernel
theorem dX7_pass_16 : decode cX7_pass 16 = .ok (.getfield 112, 3) := by decide +kernel
theorem dX7_pass_19 : decode cX7_pass 19 = .ok (.iaload, 1) := by decide +kernel
theorem dX7_pass_20 : decode cX7_pass 20 = .ok (.iload_n 1, 1) := by decide +kernel
theorem dX7_pass_21 : decode cX7_pass 21 = .ok (.if_icmp .eq 12, 3) := by decide +kernel
theorem dX7_pass_24 : decode cX7_pass 24 = .ok (.aload_n 0, 1) := by decide +kernel
theorem dX7_pass_25 : decode cX7_pass 25 = .ok (.aload_n 0, 1) := by decide +kernel
theorem dX7_pass_26 : decode cX7_pass 26 = .ok (.getfield 112, 3) := by decide +kernel
theorem dX7_pass_29 : decode cX7_pass 29 = .ok (.invokevirtual 115, 3) := by decide +kernel
theorem dX7_pass_32 : decode cX7_pass 32 = .ok (.ireturn, 1) := by decide +kernel
theorem dX7_pass_33 : decode cX7_pass 33 = .ok (.aload_n 0, 1) := by decide +kernel
theorem dX7_pass_34 : decode cX7_pass 34 = .ok (.dup, 1) := by decide +kernel
theorem dX7_pass_35 : decode cX7_pass 35 = .ok (.getfield 112, 3) := by decide +kernel
theorem dX7_pass_38 : decode cX7_pass 38 = .ok (.iconst 1, 1) := by decide +kernel
theorem dX7_pass_39 : decode cX7_pass 39 = .ok (.iadd, 1) := by decide +kernel
theorem dX7_pass_40 : decode cX7_pass 40 = .ok (.putfield 112, 3) := by decide +kernel
theorem dX7_pass_43 : decode cX7_pass 43 = .ok (.iconst 1, 1) := by decide +kernel
theorem dX7_pass_44 : decode cX7_pass 44 = .ok (.ireturn, 1) := by decide +kernel
theorem dX7_isDigit_0 : decode cX7_isDigit 0 = .ok (.aload_n 0, 1) := by decide +kernel
theorem dX7_isDigit_1 : decode cX7_isDigit 1 = .ok (.getfield 112, 3) := by decide +kernel
theorem dX7_isDigit_4 : decode cX7_isDigit 4 = .ok (.aload_n 0, 1) := by decide +kernel
theorem dX7_isDigit_5 : decode cX7_isDigit 5 = .ok (.getfield 106, 3) := by decide +kernel
theorem dX7_isDigit_8 : decode cX7_isDigit 8 = .ok (.if_icmp .ge 35, 3) := by decide +kernel
theorem dX7_isDigit_11 : decode cX7_isDigit 11 = .ok (.aload_n 0, 1) := by decide +kernel
theorem dX7_isDigit_12 : decode cX7_isDigit 12 = .ok (.getfield 56, 3) := by decide +kernel
theorem dX7_isDigit_15 : decode cX7_isDigit 15 = .ok (.aload_n 0, 1) := by decide +kernel
theorem dX7_isDigit_16 : decode cX7_isDigit 16 = .ok (.getfield 112, 3) := by decide +kernel
theorem dX7_isDigit_19 : decode cX7_isDigit 19 = .ok (.iaload, 1) := by decide +kernel
theorem dX7_isDigit_20 : decode cX7_isDigit 20 = .ok (.bipush 48, 2) := by decide +kernel
theorem dX7_isDigit_22 : decode cX7_isDigit 22 = .ok (.if_icmp .lt 21, 3) := by decide +kernel
theorem dX7_isDigit_25 : decode cX7_isDigit 25 = .ok (.aload_n 0, 1) := by decide +kernel
theorem dX7_isDigit_26 : decode cX7_isDigit 26 = .ok (.getfield 56, 3) := by decide +kernel
theorem dX7_isDigit_29 : decode cX7_isDigit 29 = .ok (.aload_n 0, 1) := by decide +kernel
theorem dX7_isDigit_30 : decode cX7_isDigit 30 = .ok (.getfield 112, 3) := by decide +kernel
theorem dX7_isDigit_33 : decode cX7_isDigit 33 = .ok (.iaload, 1) := by decide +kernel
theorem dX7_isDigit_34 : decode cX7_isDigit 34 = .ok (.bipush 57, 2) := by decide +kernel
theorem dX7_isDigit_36 : decode cX7_isDigit 36 = .ok (.if_icmp .gt 7, 3) := by decide +kernel
theorem dX7_isDigit_39 : decode cX7_isDigit 39 = .ok (.iconst 1, 1) := by decide +kernel
theorem dX7_isDigit_40 : decode cX7_isDigit 40 = .ok (.goto 4, 3) := by decide +kernel
theorem dX7_isDigit_43 : decode cX7_isDigit 43 = .ok (.iconst 0, 1) := by decide +kernel
theorem dX7_isDigit_44 : decode cX7_isDigit 44 = .ok (.ireturn, 1) := by decide +kernel
theorem dX7_passNumber_0 : decode cX7_passNumber 0 = .ok (.aload_n 0, 1) := by decide +kernel
theorem dX7_passNumber_1 : decode cX7_passNumber 1 = .ok (.getfield 112, 3) := by decide +kernel
theorem dX7_passNumber_4 : decode cX7_passNumber 4 = .ok (.istore_n 3, 1) := by decide +kernel
theorem dX7_passNumber_5 : decode cX7_passNumber 5 = .ok (.aload_n 0, 1) := by decide +kernel
theorem dX7_passNumber_6 : decode cX7_passNumber 6 = .ok (.iconst 0, 1) := by decide +kernel
theorem dX7_passNumber_7 : decode cX7_passNumber 7 = .ok (.putfield 118, 3) := by decide +kernel
theorem dX7_passNumber_10 : decode cX7_passNumber 10 = .ok (.aload_n 0, 1) := by decide +kernel
theorem dX7_passNumber_11 : decode cX7_passNumber 11 = .ok (.invokevirtual 121, 3) := by decide +kernel
theorem dX7_passNumber_14 : decode cX7_passNumber 14 = .ok (.ifCond .eq 50, 3) := by decide +kernel
theorem dX7_passNumber_17 : decode cX7_passNumber 17 = .ok (.aload_n 0, 1) := by decide +kernel
theorem dX7_passNumber_18 : decode cX7_passNumber 18 = .ok (.getfield 112, 3) := by decide +kernel
theorem dX7_passNumber_21 : decode cX7_passNumber 21 = .ok (.iload_n 3, 1) := by decide +kernel
theorem dX7_passNumber_22 : decode cX7_passNumber 22 = .ok (.iconst 3, 1) := by decide +kernel
theorem dX7_passNumber_23 : decode cX7_passNumber 23 = .ok (.iadd, 1) := by decide +kernel
theorem dX7_passNumber_24 : decode cX7_passNumber 24 = .ok (.if_icmp .ge 40, 3) := by decide +kernel
theorem dX7_passNumber_27 : decode cX7_passNumber 27 = .ok (.aload_n 0, 1) := by decide +kernel
theorem dX7_passNumber_28 : decode cX7_passNumber 28 = .ok (.bipush 10, 2) := by decide +kernel
theorem dX7_passNumber_30 : decode cX7_passNumber 30 = .ok (.aload_n 0, 1) := by decide +kernel
theorem dX7_passNumber_31 : decode cX7_passNumber 31 = .ok (.getfield 118, 3) := by decide +kernel
theorem dX7_passNumber_34 : decode cX7_passNumber 34 = .ok (.imul, 1) := by decide +kernel
theorem dX7_passNumber_35 : decode cX7_passNumber 35 = .ok (.aload_n 0, 1) := by decide +kernel
theorem dX7_passNumber_36 : decode cX7_passNumber 36 = .ok (.getfield 56, 3) := by decide +kernel
theorem dX7_passNumber_39 : decode cX7_passNumber 39 = .ok (.aload_n 0, 1) := by decide +kernel
theorem dX7_passNumber_40 : decode cX7_passNumber 40 = .ok (.getfield 112, 3) := by decide +kernel
theorem dX7_passNumber_43 : decode cX7_passNumber 43 = .ok (.iaload, 1) := by decide +kernel
theorem dX7_passNumber_44 : decode cX7_passNumber 44 = .ok (.iadd, 1) := by decide +kernel
theorem dX7_passNumber_45 : decode cX7_passNumber 45 = .ok (.bipush 48, 2) := by decide +kernel
theorem dX7_passNumber_47 : decode cX7_passNumber 47 = .ok (.isub, 1) := by decide +kernel
theorem dX7_passNumber_48 : decode cX7_passNumber 48 = .ok (.putfield 118, 3) := by decide +kernel
theorem dX7_passNumber_51 : decode cX7_passNumber 51 = .ok (.aload_n 0, 1) := by decide +kernel
theorem dX7_passNumber_52 : decode cX7_passNumber 52 = .ok (.dup, 1) := by decide +kernel
theorem dX7_passNumber_53 : decode cX7_passNumber 53 = .ok (.getfield 112, 3) := by decide +kernel
theorem dX7_passNumber_56 : decode cX7_passNumber 56 = .ok (.iconst 1, 1) := by decide +kernel
theorem dX7_passNumber_57 : decode cX7_passNumber 57 = .ok (.iadd, 1) := by decide +kernel
theorem dX7_passNumber_58 : decode cX7_passNumber 58 = .ok (.putfield 112, 3) := by decide +kernel
theorem dX7_passNumber_61 : decode cX7_passNumber 61 = .ok (.goto (-51), 3) := by decide +kernel
theorem dX7_passNumber_64 : decode cX7_passNumber 64 = .ok (.aload_n 0, 1) := by decide +kernel
theorem dX7_passNumber_65 : decode cX7_passNumber 65 = .ok (.getfield 112, 3) := by decide +kernel
theorem dX7_passNumber_68 : decode cX7_passNumber 68 = .ok (.iload_n 3, 1) := by decide +kernel
theorem dX7_passNumber_69 : decode cX7_passNumber 69 = .ok (.if_icmp .ne 12, 3) := by decide +kernel
theorem dX7_passNumber_72 : decode cX7_passNumber 72 = .ok (.aload_n 0, 1) := by decide +kernel
theorem dX7_passNumber_73 : decode cX7_passNumber 73 = .ok (.aload_n 0, 1) := by decide +kernel
theorem dX7_passNumber_74 : decode cX7_passNumber 74 = .ok (.getfield 112, 3) := by decide +kernel
theorem dX7_passNumber_77 : decode cX7_passNumber 77 = .ok (.invokevirtual 115, 3) := by decide +kernel
theorem dX7_passNumber_80 : decode cX7_passNumber 80 = .ok (.ireturn, 1) := by decide +kernel
theorem dX7_passNumber_81 : decode cX7_passNumber 81 = .ok (.aload_n 0, 1) := by decide +kernel
theorem dX7_passNumber_82 : decode cX7_passNumber 82 = .ok (.getfield 118, 3) := by decide +kernel
theorem dX7_passNumber_85 : decode cX7_passNumber 85 = .ok (.iload_n 1, 1) := by decide +kernel
theorem dX7_passNumber_86 : decode cX7_passNumber 86 = .ok (.if_icmp .lt 11, 3) := by decide +kernel
theorem dX7_passNumber_89 : decode cX7_passNumber 89 = .ok (.aload_n 0, 1) := by decide +kernel
theorem dX7_passNumber_90 : decode cX7_passNumber 90 = .ok (.getfield 118, 3) := by decide +kernel
theorem dX7_passNumber_93 : decode cX7_passNumber 93 = .ok (.iload_n 2, 1) := by decide +kernel
theorem dX7_passNumber_94 : decode cX7_passNumber 94 = .ok (.if_icmp .le 11, 3) := by decide +kernel
theorem dX7_passNumber_97 : decode cX7_passNumber 97 = .ok (.aload_n 0, 1) := by decide +kernel
theorem dX7_passNumber_98 : decode cX7_passNumber 98 = .ok (.iload_n 3, 1) := by decide +kernel
theorem dX7_passNumber_99 : decode cX7_passNumber 99 = .ok (.invokevirtual 115, 3) := by decide +kernel
theorem dX7_passNumber_102 : decode cX7_passNumber 102 = .ok (.ifCond .eq 7, 3) := by decide +kernel
theorem dX7_passNumber_105 : decode cX7_passNumber 105 = .ok (.iconst 1, 1) := by decide +kernel
theorem dX7_passNumber_106 : decode cX7_passNumber 106 = .ok (.goto 4, 3) := by decide +kernel
theorem dX7_passNumber_109 : decode cX7_passNumber 109 = .ok (.iconst 0, 1) := by decide +kernel
theorem dX7_passNumber_110 : decode cX7_passNumber 110 = .ok (.ireturn, 1) := by decide +kernel
theorem dX7_passStep_0 : decode cX7_passStep 0 = .ok (.aload_n 0, 1) := by decide +kernel
theorem dX7_passStep_1 : decode cX7_passStep 1 = .ok (.getfield 112, 3) := by decide +kernel
theorem dX7_passStep_4 : decode cX7_passStep 4 = .ok (.aload_n 0, 1) := by decide +kernel
theorem dX7_passStep_5 : decode cX7_passStep 5 = .ok (.getfield 106, 3) := by decide +kernel
theorem dX7_passStep_8 : decode cX7_passStep 8 = .ok (.if_icmp .ge 21, 3) := by decide +kernel
theorem dX7_passStep_11 : decode cX7_passStep 11 = .ok (.aload_n 0, 1) := by decide +kernel
theorem dX7_passStep_12 : decode cX7_passStep 12 = .ok (.getfield 56, 3) := by decide +kernel
theorem dX7_passStep_15 : decode cX7_passStep 15 = .ok (.aload_n 0, 1) := by decide +kernel
theorem dX7_passStep_16 : decode cX7_passStep 16 = .ok (.getfield 112, 3) := by decide +kernel
theorem dX7_passStep_19 : decode cX7_passStep 19 = .ok (.iaload, 1) := by decide +kernel
theorem dX7_passStep_20 : decode cX7_passStep 20 = .ok (.bipush 119, 2) := by decide +kernel
theorem dX7_passStep_22 : decode cX7_passStep 22 = .ok (.if_icmp .ne 7, 3) := by decide +kernel
theorem dX7_passStep_25 : decode cX7_passStep 25 = .ok (.iconst 1, 1) := by decide +kernel
theorem dX7_passStep_26 : decode cX7_passStep 26 = .ok (.goto 4, 3) := by decide +kernel
theorem dX7_passStep_29 : decode cX7_passStep 29 = .ok (.iconst 0, 1) := by decide +kernel
theorem dX7_passStep_30 : decode cX7_passStep 30 = .ok (.istore_n 1, 1) := by decide +kernel
theorem dX7_passStep_31 : decode cX7_passStep 31 = .ok (.iload_n 1, 1) := by decide +kernel
theorem dX7_passStep_32 : decode cX7_passStep 32 = .ok (.ifCond .ne 37, 3) := by decide +kernel
theorem dX7_passStep_35 : decode cX7_passStep 35 = .ok (.aload_n 0, 1) := by decide +kernel
theorem dX7_passStep_36 : decode cX7_passStep 36 = .ok (.getfield 112, 3) := by decide +kernel
theorem dX7_passStep_39 : decode cX7_passStep 39 = .ok (.aload_n 0, 1) := by decide +kernel
theorem dX7_passStep_40 : decode cX7_passStep 40 = .ok (.getfield 106, 3) := by decide +kernel
theorem dX7_passStep_43 : decode cX7_passStep 43 = .ok (.if_icmp .ge 17, 3) := by decide +kernel
theorem dX7_passStep_46 : decode cX7_passStep 46 = .ok (.aload_n 0, 1) := by decide +kernel
theorem dX7_passStep_47 : decode cX7_passStep 47 = .ok (.getfield 56, 3) := by decide +kernel
theorem dX7_passStep_50 : decode cX7_passStep 50 = .ok (.aload_n 0, 1) := by decide +kernel
theorem dX7_passStep_51 : decode cX7_passStep 51 = .ok (.getfield 112, 3) := by decide +kernel
theorem dX7_passStep_54 : decode cX7_passStep 54 = .ok (.iaload, 1) := by decide +kernel
theorem dX7_passStep_55 : decode cX7_passStep 55 = .ok (.bipush 104, 2) := by decide +kernel
theorem dX7_passStep_57 : decode cX7_passStep 57 = .ok (.if_icmp .eq 12, 3) := by decide +kernel
theorem dX7_passStep_60 : decode cX7_passStep 60 = .ok (.aload_n 0, 1) := by decide +kernel
theorem dX7_passStep_61 : decode cX7_passStep 61 = .ok (.aload_n 0, 1) := by decide +kernel
theorem dX7_passStep_62 : decode cX7_passStep 62 = .ok (.getfield 112, 3) := by decide +kernel
theorem dX7_passStep_65 : decode cX7_passStep 65 = .ok (.invokevirtual 115, 3) := by decide +kernel
theorem dX7_passStep_68 : decode cX7_passStep 68 = .ok (.ireturn, 1) := by decide +kernel
theorem dX7_passStep_69 : decode cX7_passStep 69 = .ok (.aload_n 0, 1) := by decide +kernel
theorem dX7_passStep_70 : decode cX7_passStep 70 = .ok (.dup, 1) := by decide +kernel
theorem dX7_passStep_71 : decode cX7_passStep 71 = .ok (.getfield 112, 3) := by decide +kernel
theorem dX7_passStep_74 : decode cX7_passStep 74 = .ok (.iconst 1, 1) := by decide +kernel
theorem dX7_passStep_75 : decode cX7_passStep 75 = .ok (.iadd, 1) := by decide +kernel
theorem dX7_passStep_76 : decode cX7_passStep 76 = .ok (.putfield 112, 3) := by decide +kernel
theorem dX7_passStep_79 : decode cX7_passStep 79 = .ok (.aload_n 0, 1) := by decide +kernel
theorem dX7_passStep_80 : decode cX7_passStep 80 = .ok (.getfield 59, 3) := by decide +kernel
theorem dX7_passStep_83 : decode cX7_passStep 83 = .ok (.aload_n 0, 1) := by decide +kernel
theorem dX7_passStep_84 : decode cX7_passStep 84 = .ok (.getfield 125, 3) := by decide +kernel
theorem dX7_passStep_87 : decode cX7_passStep 87 = .ok (.iload_n 1, 1) := by decide +kernel
theorem dX7_passStep_88 : decode cX7_passStep 88 = .ok (.bastore, 1) := by decide +kernel
theorem dX7_passStep_89 : decode cX7_passStep 89 = .ok (.aload_n 0, 1) := by decide +kernel
theorem dX7_passStep_90 : decode cX7_passStep 90 = .ok (.iconst 0, 1) := by decide +kernel
theorem dX7_passStep_91 : decode cX7_passStep 91 = .ok (.sipush 999, 3) := by decide +kernel
theorem dX7_passStep_94 : decode cX7_passStep 94 = .ok (.invokevirtual 128, 3) := by decide +kernel
theorem dX7_passStep_97 : decode cX7_passStep 97 = .ok (.ifCond .ne 5, 3) := by decide +kernel
theorem dX7_passStep_100 : decode cX7_passStep 100 = .ok (.iconst 0, 1) := by decide +kernel
theorem dX7_passStep_101 : decode cX7_passStep 101 = .ok (.ireturn, 1) := by decide +kernel
theorem dX7_passStep_102 : decode cX7_passStep 102 = .ok (.aload_n 0, 1) := by decide +kernel
theorem dX7_passStep_103 : decode cX7_passStep 103 = .ok (.getfield 62, 3) := by decide +kernel
theorem dX7_passStep_106 : decode cX7_passStep 106 = .ok (.aload_n 0, 1) := by decide +kernel
theorem dX7_passStep_107 : decode cX7_passStep 107 = .ok (.getfield 125, 3) := by decide +kernel
theorem dX7_passStep_110 : decode cX7_passStep 110 = .ok (.aload_n 0, 1) := by decide +kernel
theorem dX7_passStep_111 : decode cX7_passStep 111 = .ok (.getfield 118, 3) := by decide +kernel
theorem dX7_passStep_114 : decode cX7_passStep 114 = .ok (.iastore, 1) := by decide +kernel
theorem dX7_passStep_115 : decode cX7_passStep 115 = .ok (.aload_n 0, 1) := by decide +kernel
theorem dX7_passStep_116 : decode cX7_passStep 116 = .ok (.bipush 58, 2) := by decide +kernel
theorem dX7_passStep_118 : decode cX7_passStep 118 = .ok (.invokevirtual 131, 3) := by decide +kernel
theorem dX7_passStep_121 : decode cX7_passStep 121 = .ok (.ifCond .eq 16, 3) := by decide +kernel
theorem dX7_passStep_124 : decode cX7_passStep 124 = .ok (.aload_n 0, 1) := by decide +kernel
theorem dX7_passStep_125 : decode cX7_passStep 125 = .ok (.sipush 250, 3) := by decide +kernel
theorem dX7_passStep_128 : decode cX7_passStep 128 = .ok (.sipush 400, 3) := by decide +kernel
theorem dX7_passStep_131 : decode cX7_passStep 131 = .ok (.invokevirtual 128, 3) := by decide +kernel
theorem dX7_passStep_134 : decode cX7_passStep 134 = .ok (.ifCond .ne 5, 3) := by decide +kernel
theorem dX7_passStep_137 : decode cX7_passStep 137 = .ok (.iconst 0, 1) := by decide +kernel
theorem dX7_passStep_138 : decode cX7_passStep 138 = .ok (.ireturn, 1) := by decide +kernel
theorem dX7_passStep_139 : decode cX7_passStep 139 = .ok (.aload_n 0, 1) := by decide +kernel
theorem dX7_passStep_140 : decode cX7_passStep 140 = .ok (.getfield 65, 3) := by decide +kernel
theorem dX7_passStep_143 : decode cX7_passStep 143 = .ok (.aload_n 0, 1) := by decide +kernel
theorem dX7_passStep_144 : decode cX7_passStep 144 = .ok (.getfield 125, 3) := by decide +kernel
theorem dX7_passStep_147 : decode cX7_passStep 147 = .ok (.aload_n 0, 1) := by decide +kernel
theorem dX7_passStep_148 : decode cX7_passStep 148 = .ok (.getfield 118, 3) := by decide +kernel
theorem dX7_passStep_151 : decode cX7_passStep 151 = .ok (.iastore, 1) := by decide +kernel
theorem dX7_passStep_152 : decode cX7_passStep 152 = .ok (.aload_n 0, 1) := by decide +kernel
end
section
theorem dX7_passStep_153 : decode cX7_passStep 153 = .ok (.bipush 44, 2) := by decide +kernel
theorem dX7_passStep_155 : decode cX7_passStep 155 = .ok (.invokevirtual 131, 3) := by decide +kernel
theorem dX7_passStep_158 : decode cX7_passStep 158 = .ok (.ifCond .eq 13, 3) := by decide +kernel
theorem dX7_passStep_161 : decode cX7_passStep 161 = .ok (.aload_n 0, 1) := by decide +kernel
theorem dX7_passStep_162 : decode cX7_passStep 162 = .ok (.iconst 0, 1) := by decide +kernel
theorem dX7_passStep_163 : decode cX7_passStep 163 = .ok (.bipush 100, 2) := by decide +kernel
theorem dX7_passStep_165 : decode cX7_passStep 165 = .ok (.invokevirtual 128, 3) := by decide +kernel
theorem dX7_passStep_168 : decode cX7_passStep 168 = .ok (.ifCond .ne 5, 3) := by decide +kernel
theorem dX7_passStep_171 : decode cX7_passStep 171 = .ok (.iconst 0, 1) := by decide +kernel
theorem dX7_passStep_172 : decode cX7_passStep 172 = .ok (.ireturn, 1) := by decide +kernel
theorem dX7_passStep_173 : decode cX7_passStep 173 = .ok (.aload_n 0, 1) := by decide +kernel
theorem dX7_passStep_174 : decode cX7_passStep 174 = .ok (.getfield 68, 3) := by decide +kernel
theorem dX7_passStep_177 : decode cX7_passStep 177 = .ok (.aload_n 0, 1) := by decide +kernel
theorem dX7_passStep_178 : decode cX7_passStep 178 = .ok (.getfield 125, 3) := by decide +kernel
theorem dX7_passStep_181 : decode cX7_passStep 181 = .ok (.aload_n 0, 1) := by decide +kernel
theorem dX7_passStep_182 : decode cX7_passStep 182 = .ok (.getfield 118, 3) := by decide +kernel
theorem dX7_passStep_185 : decode cX7_passStep 185 = .ok (.iastore, 1) := by decide +kernel
theorem dX7_passStep_186 : decode cX7_passStep 186 = .ok (.aload_n 0, 1) := by decide +kernel
theorem dX7_passStep_187 : decode cX7_passStep 187 = .ok (.dup, 1) := by decide +kernel
theorem dX7_passStep_188 : decode cX7_passStep 188 = .ok (.getfield 125, 3) := by decide +kernel
theorem dX7_passStep_191 : decode cX7_passStep 191 = .ok (.iconst 1, 1) := by decide +kernel
theorem dX7_passStep_192 : decode cX7_passStep 192 = .ok (.iadd, 1) := by decide +kernel
theorem dX7_passStep_193 : decode cX7_passStep 193 = .ok (.putfield 125, 3) := by decide +kernel
theorem dX7_passStep_196 : decode cX7_passStep 196 = .ok (.iconst 1, 1) := by decide +kernel
theorem dX7_passStep_197 : decode cX7_passStep 197 = .ok (.ireturn, 1) := by decide +kernel
theorem dX7_schedule_0 : decode cX7_schedule 0 = .ok (.aload_n 0, 1) := by decide +kernel
theorem dX7_schedule_1 : decode cX7_schedule 1 = .ok (.iconst 0, 1) := by decide +kernel
theorem dX7_schedule_2 : decode cX7_schedule 2 = .ok (.putfield 78, 3) := by decide +kernel
theorem dX7_schedule_5 : decode cX7_schedule 5 = .ok (.aload_n 0, 1) := by decide +kernel
theorem dX7_schedule_6 : decode cX7_schedule 6 = .ok (.iconst 0, 1) := by decide +kernel
theorem dX7_schedule_7 : decode cX7_schedule 7 = .ok (.putfield 112, 3) := by decide +kernel
theorem dX7_schedule_10 : decode cX7_schedule 10 = .ok (.aload_n 0, 1) := by decide +kernel
theorem dX7_schedule_11 : decode cX7_schedule 11 = .ok (.iconst 0, 1) := by decide +kernel
theorem dX7_schedule_12 : decode cX7_schedule 12 = .ok (.putfield 125, 3) := by decide +kernel
theorem dX7_schedule_15 : decode cX7_schedule 15 = .ok (.aload_n 0, 1) := by decide +kernel
theorem dX7_schedule_16 : decode cX7_schedule 16 = .ok (.iconst 0, 1) := by decide +kernel
theorem dX7_schedule_17 : decode cX7_schedule 17 = .ok (.putfield 134, 3) := by decide +kernel
theorem dX7_schedule_20 : decode cX7_schedule 20 = .ok (.aload_n 0, 1) := by decide +kernel
theorem dX7_schedule_21 : decode cX7_schedule 21 = .ok (.invokevirtual 137, 3) := by decide +kernel
theorem dX7_schedule_24 : decode cX7_schedule 24 = .ok (.istore_n 1, 1) := by decide +kernel
theorem dX7_schedule_25 : decode cX7_schedule 25 = .ok (.iload_n 1, 1) := by decide +kernel
theorem dX7_schedule_26 : decode cX7_schedule 26 = .ok (.ifCond .eq 55, 3) := by decide +kernel
theorem dX7_schedule_29 : decode cX7_schedule 29 = .ok (.aload_n 0, 1) := by decide +kernel
theorem dX7_schedule_30 : decode cX7_schedule 30 = .ok (.getfield 112, 3) := by decide +kernel
theorem dX7_schedule_33 : decode cX7_schedule 33 = .ok (.aload_n 0, 1) := by decide +kernel
theorem dX7_schedule_34 : decode cX7_schedule 34 = .ok (.getfield 106, 3) := by decide +kernel
theorem dX7_schedule_37 : decode cX7_schedule 37 = .ok (.if_icmp .ge 44, 3) := by decide +kernel
theorem dX7_schedule_40 : decode cX7_schedule 40 = .ok (.aload_n 0, 1) := by decide +kernel
theorem dX7_schedule_41 : decode cX7_schedule 41 = .ok (.getfield 56, 3) := by decide +kernel
theorem dX7_schedule_44 : decode cX7_schedule 44 = .ok (.aload_n 0, 1) := by decide +kernel
theorem dX7_schedule_45 : decode cX7_schedule 45 = .ok (.getfield 112, 3) := by decide +kernel
theorem dX7_schedule_48 : decode cX7_schedule 48 = .ok (.iaload, 1) := by decide +kernel
theorem dX7_schedule_49 : decode cX7_schedule 49 = .ok (.bipush 59, 2) := by decide +kernel
theorem dX7_schedule_51 : decode cX7_schedule 51 = .ok (.if_icmp .ne 30, 3) := by decide +kernel
theorem dX7_schedule_54 : decode cX7_schedule 54 = .ok (.aload_n 0, 1) := by decide +kernel
theorem dX7_schedule_55 : decode cX7_schedule 55 = .ok (.getfield 125, 3) := by decide +kernel
theorem dX7_schedule_58 : decode cX7_schedule 58 = .ok (.bipush 12, 2) := by decide +kernel
theorem dX7_schedule_60 : decode cX7_schedule 60 = .ok (.if_icmp .ge 21, 3) := by decide +kernel
theorem dX7_schedule_63 : decode cX7_schedule 63 = .ok (.aload_n 0, 1) := by decide +kernel
theorem dX7_schedule_64 : decode cX7_schedule 64 = .ok (.dup, 1) := by decide +kernel
theorem dX7_schedule_65 : decode cX7_schedule 65 = .ok (.getfield 112, 3) := by decide +kernel
theorem dX7_schedule_68 : decode cX7_schedule 68 = .ok (.iconst 1, 1) := by decide +kernel
theorem dX7_schedule_69 : decode cX7_schedule 69 = .ok (.iadd, 1) := by decide +kernel
theorem dX7_schedule_70 : decode cX7_schedule 70 = .ok (.putfield 112, 3) := by decide +kernel
theorem dX7_schedule_73 : decode cX7_schedule 73 = .ok (.aload_n 0, 1) := by decide +kernel
theorem dX7_schedule_74 : decode cX7_schedule 74 = .ok (.invokevirtual 137, 3) := by decide +kernel
theorem dX7_schedule_77 : decode cX7_schedule 77 = .ok (.istore_n 1, 1) := by decide +kernel
theorem dX7_schedule_78 : decode cX7_schedule 78 = .ok (.goto (-53), 3) := by decide +kernel
theorem dX7_schedule_81 : decode cX7_schedule 81 = .ok (.iload_n 1, 1) := by decide +kernel
theorem dX7_schedule_82 : decode cX7_schedule 82 = .ok (.ifCond .eq 23, 3) := by decide +kernel
theorem dX7_schedule_85 : decode cX7_schedule 85 = .ok (.aload_n 0, 1) := by decide +kernel
theorem dX7_schedule_86 : decode cX7_schedule 86 = .ok (.getfield 112, 3) := by decide +kernel
theorem dX7_schedule_89 : decode cX7_schedule 89 = .ok (.aload_n 0, 1) := by decide +kernel
theorem dX7_schedule_90 : decode cX7_schedule 90 = .ok (.getfield 106, 3) := by decide +kernel
theorem dX7_schedule_93 : decode cX7_schedule 93 = .ok (.if_icmp .ge 12, 3) := by decide +kernel
theorem dX7_schedule_96 : decode cX7_schedule 96 = .ok (.aload_n 0, 1) := by decide +kernel
theorem dX7_schedule_97 : decode cX7_schedule 97 = .ok (.aload_n 0, 1) := by decide +kernel
theorem dX7_schedule_98 : decode cX7_schedule 98 = .ok (.getfield 112, 3) := by decide +kernel
theorem dX7_schedule_101 : decode cX7_schedule 101 = .ok (.invokevirtual 115, 3) := by decide +kernel
theorem dX7_schedule_104 : decode cX7_schedule 104 = .ok (.istore_n 1, 1) := by decide +kernel
theorem dX7_schedule_105 : decode cX7_schedule 105 = .ok (.aload_n 0, 1) := by decide +kernel
theorem dX7_schedule_106 : decode cX7_schedule 106 = .ok (.iconst 0, 1) := by decide +kernel
theorem dX7_schedule_107 : decode cX7_schedule 107 = .ok (.putfield 106, 3) := by decide +kernel
theorem dX7_schedule_110 : decode cX7_schedule 110 = .ok (.aload_n 0, 1) := by decide +kernel
theorem dX7_schedule_111 : decode cX7_schedule 111 = .ok (.iload_n 1, 1) := by decide +kernel
theorem dX7_schedule_112 : decode cX7_schedule 112 = .ok (.ifCond .eq 10, 3) := by decide +kernel
theorem dX7_schedule_115 : decode cX7_schedule 115 = .ok (.aload_n 0, 1) := by decide +kernel
theorem dX7_schedule_116 : decode cX7_schedule 116 = .ok (.getfield 125, 3) := by decide +kernel
theorem dX7_schedule_119 : decode cX7_schedule 119 = .ok (.goto 4, 3) := by decide +kernel
theorem dX7_schedule_122 : decode cX7_schedule 122 = .ok (.iconst 0, 1) := by decide +kernel
theorem dX7_schedule_123 : decode cX7_schedule 123 = .ok (.putfield 125, 3) := by decide +kernel
theorem dX7_schedule_126 : decode cX7_schedule 126 = .ok (.iload_n 1, 1) := by decide +kernel
theorem dX7_schedule_127 : decode cX7_schedule 127 = .ok (.ifCond .eq 10, 3) := by decide +kernel
theorem dX7_schedule_130 : decode cX7_schedule 130 = .ok (.aload_n 0, 1) := by decide +kernel
theorem dX7_schedule_131 : decode cX7_schedule 131 = .ok (.getfield 125, 3) := by decide +kernel
theorem dX7_schedule_134 : decode cX7_schedule 134 = .ok (.goto 9, 3) := by decide +kernel
theorem dX7_schedule_137 : decode cX7_schedule 137 = .ok (.iconst (-1), 1) := by decide +kernel
theorem dX7_schedule_138 : decode cX7_schedule 138 = .ok (.aload_n 0, 1) := by decide +kernel
theorem dX7_schedule_139 : decode cX7_schedule 139 = .ok (.getfield 109, 3) := by decide +kernel
theorem dX7_schedule_142 : decode cX7_schedule 142 = .ok (.isub, 1) := by decide +kernel
theorem dX7_schedule_143 : decode cX7_schedule 143 = .ok (.ireturn, 1) := by decide +kernel
theorem dX7_sumOf_0 : decode cX7_sumOf 0 = .ok (.aload_n 0, 1) := by decide +kernel
theorem dX7_sumOf_1 : decode cX7_sumOf 1 = .ok (.getfield 41, 3) := by decide +kernel
theorem dX7_sumOf_4 : decode cX7_sumOf 4 = .ok (.bipush 16, 2) := by decide +kernel
theorem dX7_sumOf_6 : decode cX7_sumOf 6 = .ok (.iload_n 1, 1) := by decide +kernel
theorem dX7_sumOf_7 : decode cX7_sumOf 7 = .ok (.imul, 1) := by decide +kernel
theorem dX7_sumOf_8 : decode cX7_sumOf 8 = .ok (.daload, 1) := by decide +kernel
theorem dX7_sumOf_9 : decode cX7_sumOf 9 = .ok (.dstore_n 2, 1) := by decide +kernel
theorem dX7_sumOf_10 : decode cX7_sumOf 10 = .ok (.iconst 1, 1) := by decide +kernel
theorem dX7_sumOf_11 : decode cX7_sumOf 11 = .ok (.istore 4, 2) := by decide +kernel
theorem dX7_sumOf_13 : decode cX7_sumOf 13 = .ok (.iload 4, 2) := by decide +kernel
theorem dX7_sumOf_15 : decode cX7_sumOf 15 = .ok (.aload_n 0, 1) := by decide +kernel
theorem dX7_sumOf_16 : decode cX7_sumOf 16 = .ok (.getfield 71, 3) := by decide +kernel
theorem dX7_sumOf_19 : decode cX7_sumOf 19 = .ok (.if_icmp .ge 24, 3) := by decide +kernel
theorem dX7_sumOf_22 : decode cX7_sumOf 22 = .ok (.dload_n 2, 1) := by decide +kernel
theorem dX7_sumOf_23 : decode cX7_sumOf 23 = .ok (.aload_n 0, 1) := by decide +kernel
theorem dX7_sumOf_24 : decode cX7_sumOf 24 = .ok (.getfield 41, 3) := by decide +kernel
theorem dX7_sumOf_27 : decode cX7_sumOf 27 = .ok (.bipush 16, 2) := by decide +kernel
theorem dX7_sumOf_29 : decode cX7_sumOf 29 = .ok (.iload_n 1, 1) := by decide +kernel
theorem dX7_sumOf_30 : decode cX7_sumOf 30 = .ok (.imul, 1) := by decide +kernel
theorem dX7_sumOf_31 : decode cX7_sumOf 31 = .ok (.iload 4, 2) := by decide +kernel
theorem dX7_sumOf_33 : decode cX7_sumOf 33 = .ok (.iadd, 1) := by decide +kernel
theorem dX7_sumOf_34 : decode cX7_sumOf 34 = .ok (.daload, 1) := by decide +kernel
theorem dX7_sumOf_35 : decode cX7_sumOf 35 = .ok (.dadd, 1) := by decide +kernel
theorem dX7_sumOf_36 : decode cX7_sumOf 36 = .ok (.dstore_n 2, 1) := by decide +kernel
theorem dX7_sumOf_37 : decode cX7_sumOf 37 = .ok (.iinc 4 1, 3) := by decide +kernel
theorem dX7_sumOf_40 : decode cX7_sumOf 40 = .ok (.goto (-27), 3) := by decide +kernel
theorem dX7_sumOf_43 : decode cX7_sumOf 43 = .ok (.dload_n 2, 1) := by decide +kernel
theorem dX7_sumOf_44 : decode cX7_sumOf 44 = .ok (.dreturn, 1) := by decide +kernel
theorem dX7_meanOf_0 : decode cX7_meanOf 0 = .ok (.aload_n 0, 1) := by decide +kernel
theorem dX7_meanOf_1 : decode cX7_meanOf 1 = .ok (.iload_n 1, 1) := by decide +kernel
theorem dX7_meanOf_2 : decode cX7_meanOf 2 = .ok (.invokevirtual 140, 3) := by decide +kernel
theorem dX7_meanOf_5 : decode cX7_meanOf 5 = .ok (.aload_n 0, 1) := by decide +kernel
theorem dX7_meanOf_6 : decode cX7_meanOf 6 = .ok (.getfield 71, 3) := by decide +kernel
theorem dX7_meanOf_9 : decode cX7_meanOf 9 = .ok (.i2d, 1) := by decide +kernel
theorem dX7_meanOf_10 : decode cX7_meanOf 10 = .ok (.ddiv, 1) := by decide +kernel
theorem dX7_meanOf_11 : decode cX7_meanOf 11 = .ok (.dreturn, 1) := by decide +kernel
theorem dX7_balanceNow_0 : decode cX7_balanceNow 0 = .ok (.ldc2_w 144, 3) := by decide +kernel
theorem dX7_balanceNow_3 : decode cX7_balanceNow 3 = .ok (.aload_n 0, 1) := by decide +kernel
theorem dX7_balanceNow_4 : decode cX7_balanceNow 4 = .ok (.getfield 24, 3) := by decide +kernel
theorem dX7_balanceNow_7 : decode cX7_balanceNow 7 = .ok (.dmul, 1) := by decide +kernel
theorem dX7_balanceNow_8 : decode cX7_balanceNow 8 = .ok (.dconst 1, 1) := by decide +kernel
theorem dX7_balanceNow_9 : decode cX7_balanceNow 9 = .ok (.aload_n 0, 1) := by decide +kernel
theorem dX7_balanceNow_10 : decode cX7_balanceNow 10 = .ok (.getfield 18, 3) := by decide +kernel
theorem dX7_balanceNow_13 : decode cX7_balanceNow 13 = .ok (.ldc2_w 146, 3) := by decide +kernel
theorem dX7_balanceNow_16 : decode cX7_balanceNow 16 = .ok (.dsub, 1) := by decide +kernel
theorem dX7_balanceNow_17 : decode cX7_balanceNow 17 = .ok (.ldc2_w 148, 3) := by decide +kernel
theorem dX7_balanceNow_20 : decode cX7_balanceNow 20 = .ok (.ddiv, 1) := by decide +kernel
theorem dX7_balanceNow_21 : decode cX7_balanceNow 21 = .ok (.dsub, 1) := by decide +kernel
theorem dX7_balanceNow_22 : decode cX7_balanceNow 22 = .ok (.dmul, 1) := by decide +kernel
theorem dX7_balanceNow_23 : decode cX7_balanceNow 23 = .ok (.dreturn, 1) := by decide +kernel
theorem dX7_isRefused_0 : decode cX7_isRefused 0 = .ok (.iconst 0, 1) := by decide +kernel
theorem dX7_isRefused_1 : decode cX7_isRefused 1 = .ok (.istore_n 1, 1) := by decide +kernel
theorem dX7_isRefused_2 : decode cX7_isRefused 2 = .ok (.iload_n 1, 1) := by decide +kernel
theorem dX7_isRefused_3 : decode cX7_isRefused 3 = .ok (.aload_n 0, 1) := by decide +kernel
theorem dX7_isRefused_4 : decode cX7_isRefused 4 = .ok (.getfield 75, 3) := by decide +kernel
theorem dX7_isRefused_7 : decode cX7_isRefused 7 = .ok (.if_icmp .ge 138, 3) := by decide +kernel
theorem dX7_isRefused_10 : decode cX7_isRefused 10 = .ok (.aload_n 0, 1) := by decide +kernel
theorem dX7_isRefused_11 : decode cX7_isRefused 11 = .ok (.getfield 30, 3) := by decide +kernel
theorem dX7_isRefused_14 : decode cX7_isRefused 14 = .ok (.iload_n 1, 1) := by decide +kernel
theorem dX7_isRefused_15 : decode cX7_isRefused 15 = .ok (.baload, 1) := by decide +kernel
theorem dX7_isRefused_16 : decode cX7_isRefused 16 = .ok (.ifCond .eq 123, 3) := by decide +kernel
theorem dX7_isRefused_19 : decode cX7_isRefused 19 = .ok (.dconst 0, 1) := by decide +kernel
theorem dX7_isRefused_20 : decode cX7_isRefused 20 = .ok (.dstore_n 2, 1) := by decide +kernel
theorem dX7_isRefused_21 : decode cX7_isRefused 21 = .ok (.iconst 0, 1) := by decide +kernel
theorem dX7_isRefused_22 : decode cX7_isRefused 22 = .ok (.istore 4, 2) := by decide +kernel
theorem dX7_isRefused_24 : decode cX7_isRefused 24 = .ok (.iload 4, 2) := by decide +kernel
theorem dX7_isRefused_26 : decode cX7_isRefused 26 = .ok (.aload_n 0, 1) := by decide +kernel
theorem dX7_isRefused_27 : decode cX7_isRefused 27 = .ok (.getfield 71, 3) := by decide +kernel
theorem dX7_isRefused_30 : decode cX7_isRefused 30 = .ok (.if_icmp .ge 43, 3) := by decide +kernel
theorem dX7_isRefused_33 : decode cX7_isRefused 33 = .ok (.aload_n 0, 1) := by decide +kernel
theorem dX7_isRefused_34 : decode cX7_isRefused 34 = .ok (.getfield 41, 3) := by decide +kernel
theorem dX7_isRefused_37 : decode cX7_isRefused 37 = .ok (.bipush 16, 2) := by decide +kernel
theorem dX7_isRefused_39 : decode cX7_isRefused 39 = .ok (.iload_n 1, 1) := by decide +kernel
theorem dX7_isRefused_40 : decode cX7_isRefused 40 = .ok (.imul, 1) := by decide +kernel
theorem dX7_isRefused_41 : decode cX7_isRefused 41 = .ok (.iload 4, 2) := by decide +kernel
theorem dX7_isRefused_43 : decode cX7_isRefused 43 = .ok (.iadd, 1) := by decide +kernel
theorem dX7_isRefused_44 : decode cX7_isRefused 44 = .ok (.daload, 1) := by decide +kernel
theorem dX7_isRefused_45 : decode cX7_isRefused 45 = .ok (.dload_n 2, 1) := by decide +kernel
theorem dX7_isRefused_46 : decode cX7_isRefused 46 = .ok (.dcmp .l, 1) := by decide +kernel
theorem dX7_isRefused_47 : decode cX7_isRefused 47 = .ok (.ifCond .le 18, 3) := by decide +kernel
theorem dX7_isRefused_50 : decode cX7_isRefused 50 = .ok (.aload_n 0, 1) := by decide +kernel
theorem dX7_isRefused_51 : decode cX7_isRefused 51 = .ok (.getfield 41, 3) := by decide +kernel
theorem dX7_isRefused_54 : decode cX7_isRefused 54 = .ok (.bipush 16, 2) := by decide +kernel
theorem dX7_isRefused_56 : decode cX7_isRefused 56 = .ok (.iload_n 1, 1) := by decide +kernel
theorem dX7_isRefused_57 : decode cX7_isRefused 57 = .ok (.imul, 1) := by decide +kernel
theorem dX7_isRefused_58 : decode cX7_isRefused 58 = .ok (.iload 4, 2) := by decide +kernel
theorem dX7_isRefused_60 : decode cX7_isRefused 60 = .ok (.iadd, 1) := by decide +kernel
theorem dX7_isRefused_61 : decode cX7_isRefused 61 = .ok (.daload, 1) := by decide +kernel
theorem dX7_isRefused_62 : decode cX7_isRefused 62 = .ok (.goto 4, 3) := by decide +kernel
theorem dX7_isRefused_65 : decode cX7_isRefused 65 = .ok (.dload_n 2, 1) := by decide +kernel
theorem dX7_isRefused_66 : decode cX7_isRefused 66 = .ok (.dstore_n 2, 1) := by decide +kernel
theorem dX7_isRefused_67 : decode cX7_isRefused 67 = .ok (.iinc 4 1, 3) := by decide +kernel
theorem dX7_isRefused_70 : decode cX7_isRefused 70 = .ok (.goto (-46), 3) := by decide +kernel
theorem dX7_isRefused_73 : decode cX7_isRefused 73 = .ok (.aload_n 0, 1) := by decide +kernel
theorem dX7_isRefused_74 : decode cX7_isRefused 74 = .ok (.getfield 34, 3) := by decide +kernel
theorem dX7_isRefused_77 : decode cX7_isRefused 77 = .ok (.iload_n 1, 1) := by decide +kernel
theorem dX7_isRefused_78 : decode cX7_isRefused 78 = .ok (.daload, 1) := by decide +kernel
theorem dX7_isRefused_79 : decode cX7_isRefused 79 = .ok (.dstore 4, 2) := by decide +kernel
theorem dX7_isRefused_81 : decode cX7_isRefused 81 = .ok (.aload_n 0, 1) := by decide +kernel
theorem dX7_isRefused_82 : decode cX7_isRefused 82 = .ok (.getfield 27, 3) := by decide +kernel
theorem dX7_isRefused_85 : decode cX7_isRefused 85 = .ok (.ldc2_w 93, 3) := by decide +kernel
theorem dX7_isRefused_88 : decode cX7_isRefused 88 = .ok (.dload 4, 2) := by decide +kernel
theorem dX7_isRefused_90 : decode cX7_isRefused 90 = .ok (.dmul, 1) := by decide +kernel
theorem dX7_isRefused_91 : decode cX7_isRefused 91 = .ok (.ddiv, 1) := by decide +kernel
theorem dX7_isRefused_92 : decode cX7_isRefused 92 = .ok (.ldc2_w 150, 3) := by decide +kernel
theorem dX7_isRefused_95 : decode cX7_isRefused 95 = .ok (.dcmp .l, 1) := by decide +kernel
theorem dX7_isRefused_96 : decode cX7_isRefused 96 = .ok (.ifCond .gt 41, 3) := by decide +kernel
theorem dX7_isRefused_99 : decode cX7_isRefused 99 = .ok (.aload_n 0, 1) := by decide +kernel
theorem dX7_isRefused_100 : decode cX7_isRefused 100 = .ok (.getfield 7, 3) := by decide +kernel
theorem dX7_isRefused_103 : decode cX7_isRefused 103 = .ok (.aload_n 0, 1) := by decide +kernel
theorem dX7_isRefused_104 : decode cX7_isRefused 104 = .ok (.getfield 37, 3) := by decide +kernel
theorem dX7_isRefused_107 : decode cX7_isRefused 107 = .ok (.iload_n 1, 1) := by decide +kernel
theorem dX7_isRefused_108 : decode cX7_isRefused 108 = .ok (.iaload, 1) := by decide +kernel
theorem dX7_isRefused_109 : decode cX7_isRefused 109 = .ok (.daload, 1) := by decide +kernel
theorem dX7_isRefused_110 : decode cX7_isRefused 110 = .ok (.aload_n 0, 1) := by decide +kernel
theorem dX7_isRefused_111 : decode cX7_isRefused 111 = .ok (.getfield 13, 3) := by decide +kernel
theorem dX7_isRefused_114 : decode cX7_isRefused 114 = .ok (.aload_n 0, 1) := by decide +kernel
theorem dX7_isRefused_115 : decode cX7_isRefused 115 = .ok (.getfield 37, 3) := by decide +kernel
theorem dX7_isRefused_118 : decode cX7_isRefused 118 = .ok (.iload_n 1, 1) := by decide +kernel
theorem dX7_isRefused_119 : decode cX7_isRefused 119 = .ok (.iaload, 1) := by decide +kernel
theorem dX7_isRefused_120 : decode cX7_isRefused 120 = .ok (.daload, 1) := by decide +kernel
theorem dX7_isRefused_121 : decode cX7_isRefused 121 = .ok (.dload_n 2, 1) := by decide +kernel
theorem dX7_isRefused_122 : decode cX7_isRefused 122 = .ok (.dmul, 1) := by decide +kernel
theorem dX7_isRefused_123 : decode cX7_isRefused 123 = .ok (.dadd, 1) := by decide +kernel
theorem dX7_isRefused_124 : decode cX7_isRefused 124 = .ok (.dload 4, 2) := by decide +kernel
theorem dX7_isRefused_126 : decode cX7_isRefused 126 = .ok (.dload 4, 2) := by decide +kernel
theorem dX7_isRefused_128 : decode cX7_isRefused 128 = .ok (.dmul, 1) := by decide +kernel
theorem dX7_isRefused_129 : decode cX7_isRefused 129 = .ok (.ddiv, 1) := by decide +kernel
theorem dX7_isRefused_130 : decode cX7_isRefused 130 = .ok (.ldc2_w 150, 3) := by decide +kernel
theorem dX7_isRefused_133 : decode cX7_isRefused 133 = .ok (.dcmp .l, 1) := by decide +kernel
theorem dX7_isRefused_134 : decode cX7_isRefused 134 = .ok (.ifCond .le 5, 3) := by decide +kernel
theorem dX7_isRefused_137 : decode cX7_isRefused 137 = .ok (.iconst 1, 1) := by decide +kernel
theorem dX7_isRefused_138 : decode cX7_isRefused 138 = .ok (.ireturn, 1) := by decide +kernel
theorem dX7_isRefused_139 : decode cX7_isRefused 139 = .ok (.iinc 1 1, 3) := by decide +kernel
theorem dX7_isRefused_142 : decode cX7_isRefused 142 = .ok (.goto (-140), 3) := by decide +kernel
theorem dX7_isRefused_145 : decode cX7_isRefused 145 = .ok (.iconst 0, 1) := by decide +kernel
theorem dX7_isRefused_146 : decode cX7_isRefused 146 = .ok (.ireturn, 1) := by decide +kernel
theorem dX7_hasCome_0 : decode cX7_hasCome 0 = .ok (.aload_n 0, 1) := by decide +kernel
theorem dX7_hasCome_1 : decode cX7_hasCome 1 = .ok (.getfield 59, 3) := by decide +kernel
theorem dX7_hasCome_4 : decode cX7_hasCome 4 = .ok (.aload_n 0, 1) := by decide +kernel
theorem dX7_hasCome_5 : decode cX7_hasCome 5 = .ok (.getfield 134, 3) := by decide +kernel
theorem dX7_hasCome_8 : decode cX7_hasCome 8 = .ok (.baload, 1) := by decide +kernel
theorem dX7_hasCome_9 : decode cX7_hasCome 9 = .ok (.ifCond .ne 25, 3) := by decide +kernel
theorem dX7_hasCome_12 : decode cX7_hasCome 12 = .ok (.aload_n 0, 1) := by decide +kernel
theorem dX7_hasCome_13 : decode cX7_hasCome 13 = .ok (.getfield 152, 3) := by decide +kernel
theorem dX7_hasCome_16 : decode cX7_hasCome 16 = .ok (.aload_n 0, 1) := by decide +kernel
theorem dX7_hasCome_17 : decode cX7_hasCome 17 = .ok (.getfield 62, 3) := by decide +kernel
theorem dX7_hasCome_20 : decode cX7_hasCome 20 = .ok (.aload_n 0, 1) := by decide +kernel
theorem dX7_hasCome_21 : decode cX7_hasCome 21 = .ok (.getfield 134, 3) := by decide +kernel
theorem dX7_hasCome_24 : decode cX7_hasCome 24 = .ok (.iaload, 1) := by decide +kernel
theorem dX7_hasCome_25 : decode cX7_hasCome 25 = .ok (.if_icmp .lt 7, 3) := by decide +kernel
theorem dX7_hasCome_28 : decode cX7_hasCome 28 = .ok (.iconst 1, 1) := by decide +kernel
theorem dX7_hasCome_29 : decode cX7_hasCome 29 = .ok (.goto 4, 3) := by decide +kernel
theorem dX7_hasCome_32 : decode cX7_hasCome 32 = .ok (.iconst 0, 1) := by decide +kernel
theorem dX7_hasCome_33 : decode cX7_hasCome 33 = .ok (.ireturn, 1) := by decide +kernel
theorem dX7_hasCome_34 : decode cX7_hasCome 34 = .ok (.iconst 0, 1) := by decide +kernel
theorem dX7_hasCome_35 : decode cX7_hasCome 35 = .ok (.istore_n 1, 1) := by decide +kernel
theorem dX7_hasCome_36 : decode cX7_hasCome 36 = .ok (.dconst 0, 1) := by decide +kernel
theorem dX7_hasCome_37 : decode cX7_hasCome 37 = .ok (.dstore_n 2, 1) := by decide +kernel
theorem dX7_hasCome_38 : decode cX7_hasCome 38 = .ok (.iconst 0, 1) := by decide +kernel
theorem dX7_hasCome_39 : decode cX7_hasCome 39 = .ok (.istore 4, 2) := by decide +kernel
theorem dX7_hasCome_41 : decode cX7_hasCome 41 = .ok (.iload 4, 2) := by decide +kernel
theorem dX7_hasCome_43 : decode cX7_hasCome 43 = .ok (.aload_n 0, 1) := by decide +kernel
theorem dX7_hasCome_44 : decode cX7_hasCome 44 = .ok (.getfield 75, 3) := by decide +kernel
theorem dX7_hasCome_47 : decode cX7_hasCome 47 = .ok (.if_icmp .ge 47, 3) := by decide +kernel
theorem dX7_hasCome_50 : decode cX7_hasCome 50 = .ok (.aload_n 0, 1) := by decide +kernel
theorem dX7_hasCome_51 : decode cX7_hasCome 51 = .ok (.getfield 30, 3) := by decide +kernel
theorem dX7_hasCome_54 : decode cX7_hasCome 54 = .ok (.iload 4, 2) := by decide +kernel
theorem dX7_hasCome_56 : decode cX7_hasCome 56 = .ok (.baload, 1) := by decide +kernel
theorem dX7_hasCome_57 : decode cX7_hasCome 57 = .ok (.ifCond .eq 31, 3) := by decide +kernel
theorem dX7_hasCome_60 : decode cX7_hasCome 60 = .ok (.iload_n 1, 1) := by decide +kernel
theorem dX7_hasCome_61 : decode cX7_hasCome 61 = .ok (.ifCond .eq 14, 3) := by decide +kernel
theorem dX7_hasCome_64 : decode cX7_hasCome 64 = .ok (.aload_n 0, 1) := by decide +kernel
theorem dX7_hasCome_65 : decode cX7_hasCome 65 = .ok (.iload 4, 2) := by decide +kernel
theorem dX7_hasCome_67 : decode cX7_hasCome 67 = .ok (.invokevirtual 155, 3) := by decide +kernel
theorem dX7_hasCome_70 : decode cX7_hasCome 70 = .ok (.dload_n 2, 1) := by decide +kernel
theorem dX7_hasCome_71 : decode cX7_hasCome 71 = .ok (.dcmp .l, 1) := by decide +kernel
theorem dX7_hasCome_72 : decode cX7_hasCome 72 = .ok (.ifCond .le 12, 3) := by decide +kernel
theorem dX7_hasCome_75 : decode cX7_hasCome 75 = .ok (.aload_n 0, 1) := by decide +kernel
theorem dX7_hasCome_76 : decode cX7_hasCome 76 = .ok (.iload 4, 2) := by decide +kernel
theorem dX7_hasCome_78 : decode cX7_hasCome 78 = .ok (.invokevirtual 155, 3) := by decide +kernel
theorem dX7_hasCome_81 : decode cX7_hasCome 81 = .ok (.goto 4, 3) := by decide +kernel
theorem dX7_hasCome_84 : decode cX7_hasCome 84 = .ok (.dload_n 2, 1) := by decide +kernel
theorem dX7_hasCome_85 : decode cX7_hasCome 85 = .ok (.dstore_n 2, 1) := by decide +kernel
theorem dX7_hasCome_86 : decode cX7_hasCome 86 = .ok (.iconst 1, 1) := by decide +kernel
theorem dX7_hasCome_87 : decode cX7_hasCome 87 = .ok (.istore_n 1, 1) := by decide +kernel
theorem dX7_hasCome_88 : decode cX7_hasCome 88 = .ok (.iinc 4 1, 3) := by decide +kernel
theorem dX7_hasCome_91 : decode cX7_hasCome 91 = .ok (.goto (-50), 3) := by decide +kernel
theorem dX7_hasCome_94 : decode cX7_hasCome 94 = .ok (.iload_n 1, 1) := by decide +kernel
theorem dX7_hasCome_95 : decode cX7_hasCome 95 = .ok (.ifCond .eq 26, 3) := by decide +kernel
theorem dX7_hasCome_98 : decode cX7_hasCome 98 = .ok (.dload_n 2, 1) := by decide +kernel
theorem dX7_hasCome_99 : decode cX7_hasCome 99 = .ok (.aload_n 0, 1) := by decide +kernel
theorem dX7_hasCome_100 : decode cX7_hasCome 100 = .ok (.getfield 62, 3) := by decide +kernel
theorem dX7_hasCome_103 : decode cX7_hasCome 103 = .ok (.aload_n 0, 1) := by decide +kernel
theorem dX7_hasCome_104 : decode cX7_hasCome 104 = .ok (.getfield 134, 3) := by decide +kernel
theorem dX7_hasCome_107 : decode cX7_hasCome 107 = .ok (.iaload, 1) := by decide +kernel
theorem dX7_hasCome_108 : decode cX7_hasCome 108 = .ok (.i2d, 1) := by decide +kernel
theorem dX7_hasCome_109 : decode cX7_hasCome 109 = .ok (.ldc2_w 158, 3) := by decide +kernel
theorem dX7_hasCome_112 : decode cX7_hasCome 112 = .ok (.ddiv, 1) := by decide +kernel
theorem dX7_hasCome_113 : decode cX7_hasCome 113 = .ok (.dcmp .g, 1) := by decide +kernel
theorem dX7_hasCome_114 : decode cX7_hasCome 114 = .ok (.ifCond .gt 7, 3) := by decide +kernel
theorem dX7_hasCome_117 : decode cX7_hasCome 117 = .ok (.iconst 1, 1) := by decide +kernel
theorem dX7_hasCome_118 : decode cX7_hasCome 118 = .ok (.goto 4, 3) := by decide +kernel
theorem dX7_hasCome_121 : decode cX7_hasCome 121 = .ok (.iconst 0, 1) := by decide +kernel
theorem dX7_hasCome_122 : decode cX7_hasCome 122 = .ok (.ireturn, 1) := by decide +kernel
theorem dX7_flow_0 : decode cX7_flow 0 = .ok (.bipush 16, 2) := by decide +kernel
theorem dX7_flow_2 : decode cX7_flow 2 = .ok (.iload_n 1, 1) := by decide +kernel
theorem dX7_flow_3 : decode cX7_flow 3 = .ok (.imul, 1) := by decide +kernel
theorem dX7_flow_4 : decode cX7_flow 4 = .ok (.iload_n 2, 1) := by decide +kernel
theorem dX7_flow_5 : decode cX7_flow 5 = .ok (.iadd, 1) := by decide +kernel
theorem dX7_flow_6 : decode cX7_flow 6 = .ok (.istore_n 3, 1) := by decide +kernel
theorem dX7_flow_7 : decode cX7_flow 7 = .ok (.aload_n 0, 1) := by decide +kernel
theorem dX7_flow_8 : decode cX7_flow 8 = .ok (.getfield 34, 3) := by decide +kernel
theorem dX7_flow_11 : decode cX7_flow 11 = .ok (.iload_n 1, 1) := by decide +kernel
theorem dX7_flow_12 : decode cX7_flow 12 = .ok (.daload, 1) := by decide +kernel
theorem dX7_flow_13 : decode cX7_flow 13 = .ok (.dstore 4, 2) := by decide +kernel
theorem dX7_flow_15 : decode cX7_flow 15 = .ok (.aload_n 0, 1) := by decide +kernel
theorem dX7_flow_16 : decode cX7_flow 16 = .ok (.getfield 7, 3) := by decide +kernel
theorem dX7_flow_19 : decode cX7_flow 19 = .ok (.aload_n 0, 1) := by decide +kernel
theorem dX7_flow_20 : decode cX7_flow 20 = .ok (.getfield 37, 3) := by decide +kernel
theorem dX7_flow_23 : decode cX7_flow 23 = .ok (.iload_n 1, 1) := by decide +kernel
theorem dX7_flow_24 : decode cX7_flow 24 = .ok (.iaload, 1) := by decide +kernel
theorem dX7_flow_25 : decode cX7_flow 25 = .ok (.daload, 1) := by decide +kernel
theorem dX7_flow_26 : decode cX7_flow 26 = .ok (.aload_n 0, 1) := by decide +kernel
theorem dX7_flow_27 : decode cX7_flow 27 = .ok (.getfield 13, 3) := by decide +kernel
theorem dX7_flow_30 : decode cX7_flow 30 = .ok (.aload_n 0, 1) := by decide +kernel
theorem dX7_flow_31 : decode cX7_flow 31 = .ok (.getfield 37, 3) := by decide +kernel
theorem dX7_flow_34 : decode cX7_flow 34 = .ok (.iload_n 1, 1) := by decide +kernel
theorem dX7_flow_35 : decode cX7_flow 35 = .ok (.iaload, 1) := by decide +kernel
theorem dX7_flow_36 : decode cX7_flow 36 = .ok (.daload, 1) := by decide +kernel
theorem dX7_flow_37 : decode cX7_flow 37 = .ok (.aload_n 0, 1) := by decide +kernel
theorem dX7_flow_38 : decode cX7_flow 38 = .ok (.getfield 41, 3) := by decide +kernel
theorem dX7_flow_41 : decode cX7_flow 41 = .ok (.iload_n 3, 1) := by decide +kernel
theorem dX7_flow_42 : decode cX7_flow 42 = .ok (.daload, 1) := by decide +kernel
theorem dX7_flow_43 : decode cX7_flow 43 = .ok (.aload_n 0, 1) := by decide +kernel
theorem dX7_flow_44 : decode cX7_flow 44 = .ok (.getfield 41, 3) := by decide +kernel
theorem dX7_flow_47 : decode cX7_flow 47 = .ok (.iload_n 3, 1) := by decide +kernel
theorem dX7_flow_48 : decode cX7_flow 48 = .ok (.iconst 1, 1) := by decide +kernel
theorem dX7_flow_49 : decode cX7_flow 49 = .ok (.iadd, 1) := by decide +kernel
theorem dX7_flow_50 : decode cX7_flow 50 = .ok (.daload, 1) := by decide +kernel
theorem dX7_flow_51 : decode cX7_flow 51 = .ok (.dadd, 1) := by decide +kernel
theorem dX7_flow_52 : decode cX7_flow 52 = .ok (.ldc2_w 160, 3) := by decide +kernel
theorem dX7_flow_55 : decode cX7_flow 55 = .ok (.ddiv, 1) := by decide +kernel
theorem dX7_flow_56 : decode cX7_flow 56 = .ok (.dmul, 1) := by decide +kernel
theorem dX7_flow_57 : decode cX7_flow 57 = .ok (.dadd, 1) := by decide +kernel
theorem dX7_flow_58 : decode cX7_flow 58 = .ok (.aload_n 0, 1) := by decide +kernel
theorem dX7_flow_59 : decode cX7_flow 59 = .ok (.getfield 41, 3) := by decide +kernel
theorem dX7_flow_62 : decode cX7_flow 62 = .ok (.iload_n 3, 1) := by decide +kernel
theorem dX7_flow_63 : decode cX7_flow 63 = .ok (.daload, 1) := by decide +kernel
theorem dX7_flow_64 : decode cX7_flow 64 = .ok (.aload_n 0, 1) := by decide +kernel
theorem dX7_flow_65 : decode cX7_flow 65 = .ok (.getfield 41, 3) := by decide +kernel
theorem dX7_flow_68 : decode cX7_flow 68 = .ok (.iload_n 3, 1) := by decide +kernel
theorem dX7_flow_69 : decode cX7_flow 69 = .ok (.iconst 1, 1) := by decide +kernel
theorem dX7_flow_70 : decode cX7_flow 70 = .ok (.iadd, 1) := by decide +kernel
theorem dX7_flow_71 : decode cX7_flow 71 = .ok (.daload, 1) := by decide +kernel
theorem dX7_flow_72 : decode cX7_flow 72 = .ok (.dsub, 1) := by decide +kernel
theorem dX7_flow_73 : decode cX7_flow 73 = .ok (.dmul, 1) := by decide +kernel
theorem dX7_flow_74 : decode cX7_flow 74 = .ok (.dload 4, 2) := by decide +kernel
theorem dX7_flow_76 : decode cX7_flow 76 = .ok (.dload 4, 2) := by decide +kernel
theorem dX7_flow_78 : decode cX7_flow 78 = .ok (.dmul, 1) := by decide +kernel
theorem dX7_flow_79 : decode cX7_flow 79 = .ok (.ddiv, 1) := by decide +kernel
theorem dX7_flow_80 : decode cX7_flow 80 = .ok (.dreturn, 1) := by decide +kernel
theorem dX7_hourOf_0 : decode cX7_hourOf 0 = .ok (.bipush 16, 2) := by decide +kernel
theorem dX7_hourOf_2 : decode cX7_hourOf 2 = .ok (.iload_n 1, 1) := by decide +kernel
theorem dX7_hourOf_3 : decode cX7_hourOf 3 = .ok (.imul, 1) := by decide +kernel
theorem dX7_hourOf_4 : decode cX7_hourOf 4 = .ok (.istore_n 2, 1) := by decide +kernel
theorem dX7_hourOf_5 : decode cX7_hourOf 5 = .ok (.aload_n 0, 1) := by decide +kernel
theorem dX7_hourOf_6 : decode cX7_hourOf 6 = .ok (.getfield 71, 3) := by decide +kernel
theorem dX7_hourOf_9 : decode cX7_hourOf 9 = .ok (.iconst 1, 1) := by decide +kernel
theorem dX7_hourOf_10 : decode cX7_hourOf 10 = .ok (.isub, 1) := by decide +kernel
theorem dX7_hourOf_11 : decode cX7_hourOf 11 = .ok (.istore_n 3, 1) := by decide +kernel
theorem dX7_hourOf_12 : decode cX7_hourOf 12 = .ok (.aload_n 0, 1) := by decide +kernel
theorem dX7_hourOf_13 : decode cX7_hourOf 13 = .ok (.getfield 34, 3) := by decide +kernel
theorem dX7_hourOf_16 : decode cX7_hourOf 16 = .ok (.iload_n 1, 1) := by decide +kernel
theorem dX7_hourOf_17 : decode cX7_hourOf 17 = .ok (.daload, 1) := by decide +kernel
theorem dX7_hourOf_18 : decode cX7_hourOf 18 = .ok (.dstore 4, 2) := by decide +kernel
theorem dX7_hourOf_20 : decode cX7_hourOf 20 = .ok (.aload_n 0, 1) := by decide +kernel
theorem dX7_hourOf_21 : decode cX7_hourOf 21 = .ok (.getfield 27, 3) := by decide +kernel
theorem dX7_hourOf_24 : decode cX7_hourOf 24 = .ok (.aload_n 0, 1) := by decide +kernel
theorem dX7_hourOf_25 : decode cX7_hourOf 25 = .ok (.getfield 41, 3) := by decide +kernel
theorem dX7_hourOf_28 : decode cX7_hourOf 28 = .ok (.iload_n 2, 1) := by decide +kernel
theorem dX7_hourOf_29 : decode cX7_hourOf 29 = .ok (.daload, 1) := by decide +kernel
theorem dX7_hourOf_30 : decode cX7_hourOf 30 = .ok (.aload_n 0, 1) := by decide +kernel
theorem dX7_hourOf_31 : decode cX7_hourOf 31 = .ok (.invokevirtual 162, 3) := by decide +kernel
theorem dX7_hourOf_34 : decode cX7_hourOf 34 = .ok (.dsub, 1) := by decide +kernel
theorem dX7_hourOf_35 : decode cX7_hourOf 35 = .ok (.dmul, 1) := by decide +kernel
theorem dX7_hourOf_36 : decode cX7_hourOf 36 = .ok (.ldc2_w 93, 3) := by decide +kernel
theorem dX7_hourOf_39 : decode cX7_hourOf 39 = .ok (.dload 4, 2) := by decide +kernel
theorem dX7_hourOf_41 : decode cX7_hourOf 41 = .ok (.dmul, 1) := by decide +kernel
theorem dX7_hourOf_42 : decode cX7_hourOf 42 = .ok (.ddiv, 1) := by decide +kernel
theorem dX7_hourOf_43 : decode cX7_hourOf 43 = .ok (.dstore 6, 2) := by decide +kernel
theorem dX7_hourOf_45 : decode cX7_hourOf 45 = .ok (.aload_n 0, 1) := by decide +kernel
theorem dX7_hourOf_46 : decode cX7_hourOf 46 = .ok (.getfield 27, 3) := by decide +kernel
theorem dX7_hourOf_49 : decode cX7_hourOf 49 = .ok (.aload_n 0, 1) := by decide +kernel
theorem dX7_hourOf_50 : decode cX7_hourOf 50 = .ok (.getfield 41, 3) := by decide +kernel
theorem dX7_hourOf_53 : decode cX7_hourOf 53 = .ok (.iload_n 2, 1) := by decide +kernel
theorem dX7_hourOf_54 : decode cX7_hourOf 54 = .ok (.iload_n 3, 1) := by decide +kernel
theorem dX7_hourOf_55 : decode cX7_hourOf 55 = .ok (.iadd, 1) := by decide +kernel
theorem dX7_hourOf_56 : decode cX7_hourOf 56 = .ok (.daload, 1) := by decide +kernel
theorem dX7_hourOf_57 : decode cX7_hourOf 57 = .ok (.aload_n 0, 1) := by decide +kernel
theorem dX7_hourOf_58 : decode cX7_hourOf 58 = .ok (.invokevirtual 162, 3) := by decide +kernel
theorem dX7_hourOf_61 : decode cX7_hourOf 61 = .ok (.dsub, 1) := by decide +kernel
theorem dX7_hourOf_62 : decode cX7_hourOf 62 = .ok (.dmul, 1) := by decide +kernel
theorem dX7_hourOf_63 : decode cX7_hourOf 63 = .ok (.ldc2_w 93, 3) := by decide +kernel
theorem dX7_hourOf_66 : decode cX7_hourOf 66 = .ok (.dload 4, 2) := by decide +kernel
theorem dX7_hourOf_68 : decode cX7_hourOf 68 = .ok (.dmul, 1) := by decide +kernel
theorem dX7_hourOf_69 : decode cX7_hourOf 69 = .ok (.ddiv, 1) := by decide +kernel
theorem dX7_hourOf_70 : decode cX7_hourOf 70 = .ok (.dstore 8, 2) := by decide +kernel
theorem dX7_hourOf_72 : decode cX7_hourOf 72 = .ok (.iconst 0, 1) := by decide +kernel
theorem dX7_hourOf_73 : decode cX7_hourOf 73 = .ok (.istore 10, 2) := by decide +kernel
theorem dX7_hourOf_75 : decode cX7_hourOf 75 = .ok (.iload 10, 2) := by decide +kernel
theorem dX7_hourOf_77 : decode cX7_hourOf 77 = .ok (.aload_n 0, 1) := by decide +kernel
theorem dX7_hourOf_78 : decode cX7_hourOf 78 = .ok (.getfield 71, 3) := by decide +kernel
theorem dX7_hourOf_81 : decode cX7_hourOf 81 = .ok (.if_icmp .ge 116, 3) := by decide +kernel
theorem dX7_hourOf_84 : decode cX7_hourOf 84 = .ok (.aload_n 0, 1) := by decide +kernel
theorem dX7_hourOf_85 : decode cX7_hourOf 85 = .ok (.getfield 41, 3) := by decide +kernel
theorem dX7_hourOf_88 : decode cX7_hourOf 88 = .ok (.iload_n 2, 1) := by decide +kernel
theorem dX7_hourOf_89 : decode cX7_hourOf 89 = .ok (.iload 10, 2) := by decide +kernel
theorem dX7_hourOf_91 : decode cX7_hourOf 91 = .ok (.iadd, 1) := by decide +kernel
theorem dX7_hourOf_92 : decode cX7_hourOf 92 = .ok (.daload, 1) := by decide +kernel
theorem dX7_hourOf_93 : decode cX7_hourOf 93 = .ok (.dstore 11, 2) := by decide +kernel
theorem dX7_hourOf_95 : decode cX7_hourOf 95 = .ok (.iload_n 3, 1) := by decide +kernel
theorem dX7_hourOf_96 : decode cX7_hourOf 96 = .ok (.ifCond .ne 16, 3) := by decide +kernel
theorem dX7_hourOf_99 : decode cX7_hourOf 99 = .ok (.dload 11, 2) := by decide +kernel
theorem dX7_hourOf_101 : decode cX7_hourOf 101 = .ok (.dload 6, 2) := by decide +kernel
theorem dX7_hourOf_103 : decode cX7_hourOf 103 = .ok (.dsub, 1) := by decide +kernel
theorem dX7_hourOf_104 : decode cX7_hourOf 104 = .ok (.dload 8, 2) := by decide +kernel
theorem dX7_hourOf_106 : decode cX7_hourOf 106 = .ok (.dsub, 1) := by decide +kernel
theorem dX7_hourOf_107 : decode cX7_hourOf 107 = .ok (.dstore 11, 2) := by decide +kernel
theorem dX7_hourOf_109 : decode cX7_hourOf 109 = .ok (.goto 73, 3) := by decide +kernel
theorem dX7_hourOf_112 : decode cX7_hourOf 112 = .ok (.iload 10, 2) := by decide +kernel
theorem dX7_hourOf_114 : decode cX7_hourOf 114 = .ok (.ifCond .ne 20, 3) := by decide +kernel
theorem dX7_hourOf_117 : decode cX7_hourOf 117 = .ok (.dload 11, 2) := by decide +kernel
theorem dX7_hourOf_119 : decode cX7_hourOf 119 = .ok (.dload 6, 2) := by decide +kernel
theorem dX7_hourOf_121 : decode cX7_hourOf 121 = .ok (.dsub, 1) := by decide +kernel
theorem dX7_hourOf_122 : decode cX7_hourOf 122 = .ok (.aload_n 0, 1) := by decide +kernel
theorem dX7_hourOf_123 : decode cX7_hourOf 123 = .ok (.iload_n 1, 1) := by decide +kernel
theorem dX7_hourOf_124 : decode cX7_hourOf 124 = .ok (.iconst 0, 1) := by decide +kernel
theorem dX7_hourOf_125 : decode cX7_hourOf 125 = .ok (.invokevirtual 166, 3) := by decide +kernel
theorem dX7_hourOf_128 : decode cX7_hourOf 128 = .ok (.dsub, 1) := by decide +kernel
theorem dX7_hourOf_129 : decode cX7_hourOf 129 = .ok (.dstore 11, 2) := by decide +kernel
theorem dX7_hourOf_131 : decode cX7_hourOf 131 = .ok (.goto 51, 3) := by decide +kernel
theorem dX7_hourOf_134 : decode cX7_hourOf 134 = .ok (.iload 10, 2) := by decide +kernel
theorem dX7_hourOf_136 : decode cX7_hourOf 136 = .ok (.iload_n 3, 1) := by decide +kernel
theorem dX7_hourOf_137 : decode cX7_hourOf 137 = .ok (.if_icmp .ne 23, 3) := by decide +kernel
theorem dX7_hourOf_140 : decode cX7_hourOf 140 = .ok (.dload 11, 2) := by decide +kernel
theorem dX7_hourOf_142 : decode cX7_hourOf 142 = .ok (.aload_n 0, 1) := by decide +kernel
theorem dX7_hourOf_143 : decode cX7_hourOf 143 = .ok (.iload_n 1, 1) := by decide +kernel
theorem dX7_hourOf_144 : decode cX7_hourOf 144 = .ok (.iload 10, 2) := by decide +kernel
theorem dX7_hourOf_146 : decode cX7_hourOf 146 = .ok (.iconst 1, 1) := by decide +kernel
theorem dX7_hourOf_147 : decode cX7_hourOf 147 = .ok (.isub, 1) := by decide +kernel
theorem dX7_hourOf_148 : decode cX7_hourOf 148 = .ok (.invokevirtual 166, 3) := by decide +kernel
theorem dX7_hourOf_151 : decode cX7_hourOf 151 = .ok (.dadd, 1) := by decide +kernel
theorem dX7_hourOf_152 : decode cX7_hourOf 152 = .ok (.dload 8, 2) := by decide +kernel
theorem dX7_hourOf_154 : decode cX7_hourOf 154 = .ok (.dsub, 1) := by decide +kernel
theorem dX7_hourOf_155 : decode cX7_hourOf 155 = .ok (.dstore 11, 2) := by decide +kernel
theorem dX7_hourOf_157 : decode cX7_hourOf 157 = .ok (.goto 25, 3) := by decide +kernel
theorem dX7_hourOf_160 : decode cX7_hourOf 160 = .ok (.dload 11, 2) := by decide +kernel
theorem dX7_hourOf_162 : decode cX7_hourOf 162 = .ok (.aload_n 0, 1) := by decide +kernel
theorem dX7_hourOf_163 : decode cX7_hourOf 163 = .ok (.iload_n 1, 1) := by decide +kernel
theorem dX7_hourOf_164 : decode cX7_hourOf 164 = .ok (.iload 10, 2) := by decide +kernel
theorem dX7_hourOf_166 : decode cX7_hourOf 166 = .ok (.iconst 1, 1) := by decide +kernel
theorem dX7_hourOf_167 : decode cX7_hourOf 167 = .ok (.isub, 1) := by decide +kernel
theorem dX7_hourOf_168 : decode cX7_hourOf 168 = .ok (.invokevirtual 166, 3) := by decide +kernel
theorem dX7_hourOf_171 : decode cX7_hourOf 171 = .ok (.dadd, 1) := by decide +kernel
theorem dX7_hourOf_172 : decode cX7_hourOf 172 = .ok (.aload_n 0, 1) := by decide +kernel
theorem dX7_hourOf_173 : decode cX7_hourOf 173 = .ok (.iload_n 1, 1) := by decide +kernel
theorem dX7_hourOf_174 : decode cX7_hourOf 174 = .ok (.iload 10, 2) := by decide +kernel
theorem dX7_hourOf_176 : decode cX7_hourOf 176 = .ok (.invokevirtual 166, 3) := by decide +kernel
theorem dX7_hourOf_179 : decode cX7_hourOf 179 = .ok (.dsub, 1) := by decide +kernel
theorem dX7_hourOf_180 : decode cX7_hourOf 180 = .ok (.dstore 11, 2) := by decide +kernel
theorem dX7_hourOf_182 : decode cX7_hourOf 182 = .ok (.aload_n 0, 1) := by decide +kernel
theorem dX7_hourOf_183 : decode cX7_hourOf 183 = .ok (.getfield 44, 3) := by decide +kernel
theorem dX7_hourOf_186 : decode cX7_hourOf 186 = .ok (.iload 10, 2) := by decide +kernel
theorem dX7_hourOf_188 : decode cX7_hourOf 188 = .ok (.dload 11, 2) := by decide +kernel
theorem dX7_hourOf_190 : decode cX7_hourOf 190 = .ok (.dastore, 1) := by decide +kernel
theorem dX7_hourOf_191 : decode cX7_hourOf 191 = .ok (.iinc 10 1, 3) := by decide +kernel
theorem dX7_hourOf_194 : decode cX7_hourOf 194 = .ok (.goto (-119), 3) := by decide +kernel
theorem dX7_hourOf_197 : decode cX7_hourOf 197 = .ok (.iconst 0, 1) := by decide +kernel
theorem dX7_hourOf_198 : decode cX7_hourOf 198 = .ok (.istore 10, 2) := by decide +kernel
theorem dX7_hourOf_200 : decode cX7_hourOf 200 = .ok (.iload 10, 2) := by decide +kernel
theorem dX7_hourOf_202 : decode cX7_hourOf 202 = .ok (.aload_n 0, 1) := by decide +kernel
theorem dX7_hourOf_203 : decode cX7_hourOf 203 = .ok (.getfield 71, 3) := by decide +kernel
theorem dX7_hourOf_206 : decode cX7_hourOf 206 = .ok (.if_icmp .ge 25, 3) := by decide +kernel
theorem dX7_hourOf_209 : decode cX7_hourOf 209 = .ok (.aload_n 0, 1) := by decide +kernel
theorem dX7_hourOf_210 : decode cX7_hourOf 210 = .ok (.getfield 41, 3) := by decide +kernel
theorem dX7_hourOf_213 : decode cX7_hourOf 213 = .ok (.iload_n 2, 1) := by decide +kernel
theorem dX7_hourOf_214 : decode cX7_hourOf 214 = .ok (.iload 10, 2) := by decide +kernel
theorem dX7_hourOf_216 : decode cX7_hourOf 216 = .ok (.iadd, 1) := by decide +kernel
theorem dX7_hourOf_217 : decode cX7_hourOf 217 = .ok (.aload_n 0, 1) := by decide +kernel
theorem dX7_hourOf_218 : decode cX7_hourOf 218 = .ok (.getfield 44, 3) := by decide +kernel
theorem dX7_hourOf_221 : decode cX7_hourOf 221 = .ok (.iload 10, 2) := by decide +kernel
theorem dX7_hourOf_223 : decode cX7_hourOf 223 = .ok (.daload, 1) := by decide +kernel
theorem dX7_hourOf_224 : decode cX7_hourOf 224 = .ok (.dastore, 1) := by decide +kernel
theorem dX7_hourOf_225 : decode cX7_hourOf 225 = .ok (.iinc 10 1, 3) := by decide +kernel
theorem dX7_hourOf_228 : decode cX7_hourOf 228 = .ok (.goto (-28), 3) := by decide +kernel
theorem dX7_hourOf_231 : decode cX7_hourOf 231 = .ok (.dload 6, 2) := by decide +kernel
theorem dX7_hourOf_233 : decode cX7_hourOf 233 = .ok (.dload 8, 2) := by decide +kernel
theorem dX7_hourOf_235 : decode cX7_hourOf 235 = .ok (.dadd, 1) := by decide +kernel
theorem dX7_hourOf_236 : decode cX7_hourOf 236 = .ok (.dload 4, 2) := by decide +kernel
theorem dX7_hourOf_238 : decode cX7_hourOf 238 = .ok (.dmul, 1) := by decide +kernel
theorem dX7_hourOf_239 : decode cX7_hourOf 239 = .ok (.ldc2_w 170, 3) := by decide +kernel
theorem dX7_hourOf_242 : decode cX7_hourOf 242 = .ok (.dmul, 1) := by decide +kernel
theorem dX7_hourOf_243 : decode cX7_hourOf 243 = .ok (.dstore 10, 2) := by decide +kernel
theorem dX7_hourOf_245 : decode cX7_hourOf 245 = .ok (.aload_n 0, 1) := by decide +kernel
theorem dX7_hourOf_246 : decode cX7_hourOf 246 = .ok (.aload_n 0, 1) := by decide +kernel
theorem dX7_hourOf_247 : decode cX7_hourOf 247 = .ok (.getfield 172, 3) := by decide +kernel
theorem dX7_hourOf_250 : decode cX7_hourOf 250 = .ok (.dload 10, 2) := by decide +kernel
theorem dX7_hourOf_252 : decode cX7_hourOf 252 = .ok (.dadd, 1) := by decide +kernel
theorem dX7_hourOf_253 : decode cX7_hourOf 253 = .ok (.putfield 172, 3) := by decide +kernel
theorem dX7_hourOf_256 : decode cX7_hourOf 256 = .ok (.aload_n 0, 1) := by decide +kernel
theorem dX7_hourOf_257 : decode cX7_hourOf 257 = .ok (.getfield 172, 3) := by decide +kernel
theorem dX7_hourOf_260 : decode cX7_hourOf 260 = .ok (.d2l, 1) := by decide +kernel
theorem dX7_hourOf_261 : decode cX7_hourOf 261 = .ok (.lstore 12, 2) := by decide +kernel
theorem dX7_hourOf_263 : decode cX7_hourOf 263 = .ok (.aload_n 0, 1) := by decide +kernel
theorem dX7_hourOf_264 : decode cX7_hourOf 264 = .ok (.aload_n 0, 1) := by decide +kernel
theorem dX7_hourOf_265 : decode cX7_hourOf 265 = .ok (.getfield 172, 3) := by decide +kernel
theorem dX7_hourOf_268 : decode cX7_hourOf 268 = .ok (.lload 12, 2) := by decide +kernel
theorem dX7_hourOf_270 : decode cX7_hourOf 270 = .ok (.l2d, 1) := by decide +kernel
theorem dX7_hourOf_271 : decode cX7_hourOf 271 = .ok (.dsub, 1) := by decide +kernel
theorem dX7_hourOf_272 : decode cX7_hourOf 272 = .ok (.putfield 172, 3) := by decide +kernel
theorem dX7_hourOf_275 : decode cX7_hourOf 275 = .ok (.aload_n 0, 1) := by decide +kernel
theorem dX7_hourOf_276 : decode cX7_hourOf 276 = .ok (.aload_n 0, 1) := by decide +kernel
theorem dX7_hourOf_277 : decode cX7_hourOf 277 = .ok (.getfield 175, 3) := by decide +kernel
theorem dX7_hourOf_280 : decode cX7_hourOf 280 = .ok (.lload 12, 2) := by decide +kernel
theorem dX7_hourOf_282 : decode cX7_hourOf 282 = .ok (.ladd, 1) := by decide +kernel
theorem dX7_hourOf_283 : decode cX7_hourOf 283 = .ok (.putfield 175, 3) := by decide +kernel
theorem dX7_hourOf_286 : decode cX7_hourOf 286 = .ok (.aload_n 0, 1) := by decide +kernel
theorem dX7_hourOf_287 : decode cX7_hourOf 287 = .ok (.aload_n 0, 1) := by decide +kernel
theorem dX7_hourOf_288 : decode cX7_hourOf 288 = .ok (.getfield 24, 3) := by decide +kernel
theorem dX7_hourOf_291 : decode cX7_hourOf 291 = .ok (.dload 10, 2) := by decide +kernel
theorem dX7_hourOf_293 : decode cX7_hourOf 293 = .ok (.ldc2_w 179, 3) := by decide +kernel
theorem dX7_hourOf_296 : decode cX7_hourOf 296 = .ok (.ddiv, 1) := by decide +kernel
theorem dX7_hourOf_297 : decode cX7_hourOf 297 = .ok (.dconst 1, 1) := by decide +kernel
theorem dX7_hourOf_298 : decode cX7_hourOf 298 = .ok (.aload_n 0, 1) := by decide +kernel
theorem dX7_hourOf_299 : decode cX7_hourOf 299 = .ok (.getfield 99, 3) := by decide +kernel
theorem dX7_hourOf_302 : decode cX7_hourOf 302 = .ok (.dsub, 1) := by decide +kernel
theorem dX7_hourOf_303 : decode cX7_hourOf 303 = .ok (.dmul, 1) := by decide +kernel
theorem dX7_hourOf_304 : decode cX7_hourOf 304 = .ok (.dadd, 1) := by decide +kernel
theorem dX7_hourOf_305 : decode cX7_hourOf 305 = .ok (.putfield 24, 3) := by decide +kernel
theorem dX7_hourOf_308 : decode cX7_hourOf 308 = .ok (.aload_n 0, 1) := by decide +kernel
theorem dX7_hourOf_309 : decode cX7_hourOf 309 = .ok (.aload_n 0, 1) := by decide +kernel
theorem dX7_hourOf_310 : decode cX7_hourOf 310 = .ok (.getfield 24, 3) := by decide +kernel
theorem dX7_hourOf_313 : decode cX7_hourOf 313 = .ok (.dconst 0, 1) := by decide +kernel
theorem dX7_hourOf_314 : decode cX7_hourOf 314 = .ok (.dcmp .g, 1) := by decide +kernel
theorem dX7_hourOf_315 : decode cX7_hourOf 315 = .ok (.ifCond .ge 7, 3) := by decide +kernel
theorem dX7_hourOf_318 : decode cX7_hourOf 318 = .ok (.dconst 0, 1) := by decide +kernel
theorem dX7_hourOf_319 : decode cX7_hourOf 319 = .ok (.goto 20, 3) := by decide +kernel
theorem dX7_hourOf_322 : decode cX7_hourOf 322 = .ok (.aload_n 0, 1) := by decide +kernel
theorem dX7_hourOf_323 : decode cX7_hourOf 323 = .ok (.getfield 24, 3) := by decide +kernel
theorem dX7_hourOf_326 : decode cX7_hourOf 326 = .ok (.dconst 1, 1) := by decide +kernel
theorem dX7_hourOf_327 : decode cX7_hourOf 327 = .ok (.dcmp .l, 1) := by decide +kernel
theorem dX7_hourOf_328 : decode cX7_hourOf 328 = .ok (.ifCond .le 7, 3) := by decide +kernel
theorem dX7_hourOf_331 : decode cX7_hourOf 331 = .ok (.dconst 1, 1) := by decide +kernel
theorem dX7_hourOf_332 : decode cX7_hourOf 332 = .ok (.goto 7, 3) := by decide +kernel
theorem dX7_hourOf_335 : decode cX7_hourOf 335 = .ok (.aload_n 0, 1) := by decide +kernel
theorem dX7_hourOf_336 : decode cX7_hourOf 336 = .ok (.getfield 24, 3) := by decide +kernel
theorem dX7_hourOf_339 : decode cX7_hourOf 339 = .ok (.putfield 24, 3) := by decide +kernel
theorem dX7_hourOf_342 : decode cX7_hourOf 342 = .ok (.return_, 1) := by decide +kernel
theorem dX7_share_0 : decode cX7_share 0 = .ok (.aload_n 0, 1) := by decide +kernel
theorem dX7_share_1 : decode cX7_share 1 = .ok (.getfield 41, 3) := by decide +kernel
theorem dX7_share_4 : decode cX7_share 4 = .ok (.bipush 16, 2) := by decide +kernel
theorem dX7_share_6 : decode cX7_share 6 = .ok (.iload_n 1, 1) := by decide +kernel
theorem dX7_share_7 : decode cX7_share 7 = .ok (.imul, 1) := by decide +kernel
theorem dX7_share_8 : decode cX7_share 8 = .ok (.iload_n 2, 1) := by decide +kernel
theorem dX7_share_9 : decode cX7_share 9 = .ok (.iadd, 1) := by decide +kernel
theorem dX7_share_10 : decode cX7_share 10 = .ok (.daload, 1) := by decide +kernel
theorem dX7_share_11 : decode cX7_share 11 = .ok (.dstore_n 3, 1) := by decide +kernel
theorem dX7_share_12 : decode cX7_share 12 = .ok (.ldc2_w 150, 3) := by decide +kernel
theorem dX7_share_15 : decode cX7_share 15 = .ok (.ldc2_w 181, 3) := by decide +kernel
theorem dX7_share_18 : decode cX7_share 18 = .ok (.dload_n 3, 1) := by decide +kernel
theorem dX7_share_19 : decode cX7_share 19 = .ok (.ldc2_w 181, 3) := by decide +kernel
theorem dX7_share_22 : decode cX7_share 22 = .ok (.dcmp .g, 1) := by decide +kernel
theorem dX7_share_23 : decode cX7_share 23 = .ok (.ifCond .ge 7, 3) := by decide +kernel
theorem dX7_share_26 : decode cX7_share 26 = .ok (.dload_n 3, 1) := by decide +kernel
theorem dX7_share_27 : decode cX7_share 27 = .ok (.goto 6, 3) := by decide +kernel
theorem dX7_share_30 : decode cX7_share 30 = .ok (.ldc2_w 181, 3) := by decide +kernel
theorem dX7_share_33 : decode cX7_share 33 = .ok (.dsub, 1) := by decide +kernel
theorem dX7_share_34 : decode cX7_share 34 = .ok (.dmul, 1) := by decide +kernel
theorem dX7_share_35 : decode cX7_share 35 = .ok (.dreturn, 1) := by decide +kernel
theorem dX7_stressOf_0 : decode cX7_stressOf 0 = .ok (.aload_n 0, 1) := by decide +kernel
theorem dX7_stressOf_1 : decode cX7_stressOf 1 = .ok (.iload_n 1, 1) := by decide +kernel
theorem dX7_stressOf_2 : decode cX7_stressOf 2 = .ok (.iconst 0, 1) := by decide +kernel
theorem dX7_stressOf_3 : decode cX7_stressOf 3 = .ok (.invokevirtual 183, 3) := by decide +kernel
theorem dX7_stressOf_6 : decode cX7_stressOf 6 = .ok (.dstore_n 3, 1) := by decide +kernel
theorem dX7_stressOf_7 : decode cX7_stressOf 7 = .ok (.iconst 1, 1) := by decide +kernel
theorem dX7_stressOf_8 : decode cX7_stressOf 8 = .ok (.istore 5, 2) := by decide +kernel
theorem dX7_stressOf_10 : decode cX7_stressOf 10 = .ok (.iload 5, 2) := by decide +kernel
theorem dX7_stressOf_12 : decode cX7_stressOf 12 = .ok (.aload_n 0, 1) := by decide +kernel
theorem dX7_stressOf_13 : decode cX7_stressOf 13 = .ok (.getfield 71, 3) := by decide +kernel
theorem dX7_stressOf_16 : decode cX7_stressOf 16 = .ok (.if_icmp .ge 19, 3) := by decide +kernel
theorem dX7_stressOf_19 : decode cX7_stressOf 19 = .ok (.dload_n 3, 1) := by decide +kernel
theorem dX7_stressOf_20 : decode cX7_stressOf 20 = .ok (.aload_n 0, 1) := by decide +kernel
theorem dX7_stressOf_21 : decode cX7_stressOf 21 = .ok (.iload_n 1, 1) := by decide +kernel
theorem dX7_stressOf_22 : decode cX7_stressOf 22 = .ok (.iload 5, 2) := by decide +kernel
theorem dX7_stressOf_24 : decode cX7_stressOf 24 = .ok (.invokevirtual 183, 3) := by decide +kernel
theorem dX7_stressOf_27 : decode cX7_stressOf 27 = .ok (.dadd, 1) := by decide +kernel
theorem dX7_stressOf_28 : decode cX7_stressOf 28 = .ok (.dstore_n 3, 1) := by decide +kernel
theorem dX7_stressOf_29 : decode cX7_stressOf 29 = .ok (.iinc 5 1, 3) := by decide +kernel
theorem dX7_stressOf_32 : decode cX7_stressOf 32 = .ok (.goto (-22), 3) := by decide +kernel
theorem dX7_stressOf_35 : decode cX7_stressOf 35 = .ok (.aload_n 0, 1) := by decide +kernel
theorem dX7_stressOf_36 : decode cX7_stressOf 36 = .ok (.iload_n 1, 1) := by decide +kernel
theorem dX7_stressOf_37 : decode cX7_stressOf 37 = .ok (.iload_n 2, 1) := by decide +kernel
theorem dX7_stressOf_38 : decode cX7_stressOf 38 = .ok (.invokevirtual 183, 3) := by decide +kernel
theorem dX7_stressOf_41 : decode cX7_stressOf 41 = .ok (.dload_n 3, 1) := by decide +kernel
theorem dX7_stressOf_42 : decode cX7_stressOf 42 = .ok (.aload_n 0, 1) := by decide +kernel
theorem dX7_stressOf_43 : decode cX7_stressOf 43 = .ok (.getfield 71, 3) := by decide +kernel
theorem dX7_stressOf_46 : decode cX7_stressOf 46 = .ok (.i2d, 1) := by decide +kernel
theorem dX7_stressOf_47 : decode cX7_stressOf 47 = .ok (.ddiv, 1) := by decide +kernel
theorem dX7_stressOf_48 : decode cX7_stressOf 48 = .ok (.dsub, 1) := by decide +kernel
theorem dX7_stressOf_49 : decode cX7_stressOf 49 = .ok (.dreturn, 1) := by decide +kernel
theorem dX7_keep_0 : decode cX7_keep 0 = .ok (.dconst 0, 1) := by decide +kernel
theorem dX7_keep_1 : decode cX7_keep 1 = .ok (.dstore_n 2, 1) := by decide +kernel
theorem dX7_keep_2 : decode cX7_keep 2 = .ok (.iconst 0, 1) := by decide +kernel
theorem dX7_keep_3 : decode cX7_keep 3 = .ok (.istore 4, 2) := by decide +kernel
theorem dX7_keep_5 : decode cX7_keep 5 = .ok (.iload 4, 2) := by decide +kernel
theorem dX7_keep_7 : decode cX7_keep 7 = .ok (.aload_n 0, 1) := by decide +kernel
theorem dX7_keep_8 : decode cX7_keep 8 = .ok (.getfield 71, 3) := by decide +kernel
theorem dX7_keep_11 : decode cX7_keep 11 = .ok (.if_icmp .ge 49, 3) := by decide +kernel
theorem dX7_keep_14 : decode cX7_keep 14 = .ok (.aload_n 0, 1) := by decide +kernel
theorem dX7_keep_15 : decode cX7_keep 15 = .ok (.iload_n 1, 1) := by decide +kernel
theorem dX7_keep_16 : decode cX7_keep 16 = .ok (.iload 4, 2) := by decide +kernel
theorem dX7_keep_18 : decode cX7_keep 18 = .ok (.invokevirtual 186, 3) := by decide +kernel
theorem dX7_keep_21 : decode cX7_keep 21 = .ok (.dstore 5, 2) := by decide +kernel
theorem dX7_keep_23 : decode cX7_keep 23 = .ok (.dload 5, 2) := by decide +kernel
theorem dX7_keep_25 : decode cX7_keep 25 = .ok (.dconst 0, 1) := by decide +kernel
theorem dX7_keep_26 : decode cX7_keep 26 = .ok (.dcmp .g, 1) := by decide +kernel
theorem dX7_keep_27 : decode cX7_keep 27 = .ok (.ifCond .ge 9, 3) := by decide +kernel
theorem dX7_keep_30 : decode cX7_keep 30 = .ok (.dload 5, 2) := by decide +kernel
theorem dX7_keep_32 : decode cX7_keep 32 = .ok (.dneg, 1) := by decide +kernel
theorem dX7_keep_33 : decode cX7_keep 33 = .ok (.goto 5, 3) := by decide +kernel
theorem dX7_keep_36 : decode cX7_keep 36 = .ok (.dload 5, 2) := by decide +kernel
theorem dX7_keep_38 : decode cX7_keep 38 = .ok (.dstore 5, 2) := by decide +kernel
theorem dX7_keep_40 : decode cX7_keep 40 = .ok (.dload 5, 2) := by decide +kernel
theorem dX7_keep_42 : decode cX7_keep 42 = .ok (.dload_n 2, 1) := by decide +kernel
theorem dX7_keep_43 : decode cX7_keep 43 = .ok (.dcmp .l, 1) := by decide +kernel
theorem dX7_keep_44 : decode cX7_keep 44 = .ok (.ifCond .le 8, 3) := by decide +kernel
theorem dX7_keep_47 : decode cX7_keep 47 = .ok (.dload 5, 2) := by decide +kernel
theorem dX7_keep_49 : decode cX7_keep 49 = .ok (.goto 4, 3) := by decide +kernel
theorem dX7_keep_52 : decode cX7_keep 52 = .ok (.dload_n 2, 1) := by decide +kernel
theorem dX7_keep_53 : decode cX7_keep 53 = .ok (.dstore_n 2, 1) := by decide +kernel
theorem dX7_keep_54 : decode cX7_keep 54 = .ok (.iinc 4 1, 3) := by decide +kernel
theorem dX7_keep_57 : decode cX7_keep 57 = .ok (.goto (-52), 3) := by decide +kernel
theorem dX7_keep_60 : decode cX7_keep 60 = .ok (.aload_n 0, 1) := by decide +kernel
theorem dX7_keep_61 : decode cX7_keep 61 = .ok (.getfield 47, 3) := by decide +kernel
theorem dX7_keep_64 : decode cX7_keep 64 = .ok (.iload_n 1, 1) := by decide +kernel
theorem dX7_keep_65 : decode cX7_keep 65 = .ok (.baload, 1) := by decide +kernel
theorem dX7_keep_66 : decode cX7_keep 66 = .ok (.ifCond .eq 34, 3) := by decide +kernel
theorem dX7_keep_69 : decode cX7_keep 69 = .ok (.aload_n 0, 1) := by decide +kernel
theorem dX7_keep_70 : decode cX7_keep 70 = .ok (.getfield 53, 3) := by decide +kernel
theorem dX7_keep_73 : decode cX7_keep 73 = .ok (.iload_n 1, 1) := by decide +kernel
theorem dX7_keep_74 : decode cX7_keep 74 = .ok (.iaload, 1) := by decide +kernel
theorem dX7_keep_75 : decode cX7_keep 75 = .ok (.iconst (-1), 1) := by decide +kernel
theorem dX7_keep_76 : decode cX7_keep 76 = .ok (.if_icmp .ne 24, 3) := by decide +kernel
theorem dX7_keep_79 : decode cX7_keep 79 = .ok (.dload_n 2, 1) := by decide +kernel
theorem dX7_keep_80 : decode cX7_keep 80 = .ok (.aload_n 0, 1) := by decide +kernel
theorem dX7_keep_81 : decode cX7_keep 81 = .ok (.getfield 50, 3) := by decide +kernel
theorem dX7_keep_84 : decode cX7_keep 84 = .ok (.iload_n 1, 1) := by decide +kernel
theorem dX7_keep_85 : decode cX7_keep 85 = .ok (.daload, 1) := by decide +kernel
theorem dX7_keep_86 : decode cX7_keep 86 = .ok (.dcmp .l, 1) := by decide +kernel
theorem dX7_keep_87 : decode cX7_keep 87 = .ok (.ifCond .le 13, 3) := by decide +kernel
theorem dX7_keep_90 : decode cX7_keep 90 = .ok (.aload_n 0, 1) := by decide +kernel
theorem dX7_keep_91 : decode cX7_keep 91 = .ok (.getfield 53, 3) := by decide +kernel
theorem dX7_keep_94 : decode cX7_keep 94 = .ok (.iload_n 1, 1) := by decide +kernel
theorem dX7_keep_95 : decode cX7_keep 95 = .ok (.aload_n 0, 1) := by decide +kernel
theorem dX7_keep_96 : decode cX7_keep 96 = .ok (.getfield 152, 3) := by decide +kernel
theorem dX7_keep_99 : decode cX7_keep 99 = .ok (.iastore, 1) := by decide +kernel
theorem dX7_keep_100 : decode cX7_keep 100 = .ok (.return_, 1) := by decide +kernel
theorem dX7_hour_0 : decode cX7_hour 0 = .ok (.aload_n 0, 1) := by decide +kernel
theorem dX7_hour_1 : decode cX7_hour 1 = .ok (.getfield 134, 3) := by decide +kernel
theorem dX7_hour_4 : decode cX7_hour 4 = .ok (.aload_n 0, 1) := by decide +kernel
theorem dX7_hour_5 : decode cX7_hour 5 = .ok (.getfield 125, 3) := by decide +kernel
theorem dX7_hour_8 : decode cX7_hour 8 = .ok (.if_icmp .ge 52, 3) := by decide +kernel
theorem dX7_hour_11 : decode cX7_hour 11 = .ok (.aload_n 0, 1) := by decide +kernel
theorem dX7_hour_12 : decode cX7_hour 12 = .ok (.invokevirtual 189, 3) := by decide +kernel
theorem dX7_hour_15 : decode cX7_hour 15 = .ok (.ifCond .eq 45, 3) := by decide +kernel
theorem dX7_hour_18 : decode cX7_hour 18 = .ok (.aload_n 0, 1) := by decide +kernel
theorem dX7_hour_19 : decode cX7_hour 19 = .ok (.aload_n 0, 1) := by decide +kernel
theorem dX7_hour_20 : decode cX7_hour 20 = .ok (.getfield 65, 3) := by decide +kernel
theorem dX7_hour_23 : decode cX7_hour 23 = .ok (.aload_n 0, 1) := by decide +kernel
theorem dX7_hour_24 : decode cX7_hour 24 = .ok (.getfield 134, 3) := by decide +kernel
theorem dX7_hour_27 : decode cX7_hour 27 = .ok (.iaload, 1) := by decide +kernel
theorem dX7_hour_28 : decode cX7_hour 28 = .ok (.i2d, 1) := by decide +kernel
theorem dX7_hour_29 : decode cX7_hour 29 = .ok (.putfield 18, 3) := by decide +kernel
theorem dX7_hour_32 : decode cX7_hour 32 = .ok (.aload_n 0, 1) := by decide +kernel
theorem dX7_hour_33 : decode cX7_hour 33 = .ok (.aload_n 0, 1) := by decide +kernel
theorem dX7_hour_34 : decode cX7_hour 34 = .ok (.getfield 68, 3) := by decide +kernel
theorem dX7_hour_37 : decode cX7_hour 37 = .ok (.aload_n 0, 1) := by decide +kernel
theorem dX7_hour_38 : decode cX7_hour 38 = .ok (.getfield 134, 3) := by decide +kernel
theorem dX7_hour_41 : decode cX7_hour 41 = .ok (.iaload, 1) := by decide +kernel
theorem dX7_hour_42 : decode cX7_hour 42 = .ok (.i2d, 1) := by decide +kernel
theorem dX7_hour_43 : decode cX7_hour 43 = .ok (.ldc2_w 158, 3) := by decide +kernel
theorem dX7_hour_46 : decode cX7_hour 46 = .ok (.ddiv, 1) := by decide +kernel
theorem dX7_hour_47 : decode cX7_hour 47 = .ok (.putfield 24, 3) := by decide +kernel
theorem dX7_hour_50 : decode cX7_hour 50 = .ok (.aload_n 0, 1) := by decide +kernel
theorem dX7_hour_51 : decode cX7_hour 51 = .ok (.dup, 1) := by decide +kernel
theorem dX7_hour_52 : decode cX7_hour 52 = .ok (.getfield 134, 3) := by decide +kernel
theorem dX7_hour_55 : decode cX7_hour 55 = .ok (.iconst 1, 1) := by decide +kernel
theorem dX7_hour_56 : decode cX7_hour 56 = .ok (.iadd, 1) := by decide +kernel
theorem dX7_hour_57 : decode cX7_hour 57 = .ok (.putfield 134, 3) := by decide +kernel
theorem dX7_hour_60 : decode cX7_hour 60 = .ok (.iconst 0, 1) := by decide +kernel
theorem dX7_hour_61 : decode cX7_hour 61 = .ok (.istore_n 1, 1) := by decide +kernel
theorem dX7_hour_62 : decode cX7_hour 62 = .ok (.iload_n 1, 1) := by decide +kernel
theorem dX7_hour_63 : decode cX7_hour 63 = .ok (.aload_n 0, 1) := by decide +kernel
theorem dX7_hour_64 : decode cX7_hour 64 = .ok (.getfield 75, 3) := by decide +kernel
theorem dX7_hour_67 : decode cX7_hour 67 = .ok (.if_icmp .ge 23, 3) := by decide +kernel
theorem dX7_hour_70 : decode cX7_hour 70 = .ok (.aload_n 0, 1) := by decide +kernel
theorem dX7_hour_71 : decode cX7_hour 71 = .ok (.getfield 30, 3) := by decide +kernel
theorem dX7_hour_74 : decode cX7_hour 74 = .ok (.iload_n 1, 1) := by decide +kernel
theorem dX7_hour_75 : decode cX7_hour 75 = .ok (.baload, 1) := by decide +kernel
theorem dX7_hour_76 : decode cX7_hour 76 = .ok (.ifCond .eq 8, 3) := by decide +kernel
theorem dX7_hour_79 : decode cX7_hour 79 = .ok (.aload_n 0, 1) := by decide +kernel
theorem dX7_hour_80 : decode cX7_hour 80 = .ok (.iload_n 1, 1) := by decide +kernel
theorem dX7_hour_81 : decode cX7_hour 81 = .ok (.invokevirtual 192, 3) := by decide +kernel
theorem dX7_hour_84 : decode cX7_hour 84 = .ok (.iinc 1 1, 3) := by decide +kernel
theorem dX7_hour_87 : decode cX7_hour 87 = .ok (.goto (-25), 3) := by decide +kernel
theorem dX7_hour_90 : decode cX7_hour 90 = .ok (.aload_n 0, 1) := by decide +kernel
theorem dX7_hour_91 : decode cX7_hour 91 = .ok (.dup, 1) := by decide +kernel
theorem dX7_hour_92 : decode cX7_hour 92 = .ok (.getfield 152, 3) := by decide +kernel
theorem dX7_hour_95 : decode cX7_hour 95 = .ok (.iconst 1, 1) := by decide +kernel
theorem dX7_hour_96 : decode cX7_hour 96 = .ok (.iadd, 1) := by decide +kernel
theorem dX7_hour_97 : decode cX7_hour 97 = .ok (.putfield 152, 3) := by decide +kernel
theorem dX7_hour_100 : decode cX7_hour 100 = .ok (.iconst 0, 1) := by decide +kernel
theorem dX7_hour_101 : decode cX7_hour 101 = .ok (.istore_n 1, 1) := by decide +kernel
theorem dX7_hour_102 : decode cX7_hour 102 = .ok (.iload_n 1, 1) := by decide +kernel
theorem dX7_hour_103 : decode cX7_hour 103 = .ok (.aload_n 0, 1) := by decide +kernel
theorem dX7_hour_104 : decode cX7_hour 104 = .ok (.getfield 75, 3) := by decide +kernel
theorem dX7_hour_107 : decode cX7_hour 107 = .ok (.if_icmp .ge 23, 3) := by decide +kernel
theorem dX7_hour_110 : decode cX7_hour 110 = .ok (.aload_n 0, 1) := by decide +kernel
theorem dX7_hour_111 : decode cX7_hour 111 = .ok (.getfield 30, 3) := by decide +kernel
theorem dX7_hour_114 : decode cX7_hour 114 = .ok (.iload_n 1, 1) := by decide +kernel
theorem dX7_hour_115 : decode cX7_hour 115 = .ok (.baload, 1) := by decide +kernel
theorem dX7_hour_116 : decode cX7_hour 116 = .ok (.ifCond .eq 8, 3) := by decide +kernel
theorem dX7_hour_119 : decode cX7_hour 119 = .ok (.aload_n 0, 1) := by decide +kernel
theorem dX7_hour_120 : decode cX7_hour 120 = .ok (.iload_n 1, 1) := by decide +kernel
theorem dX7_hour_121 : decode cX7_hour 121 = .ok (.invokevirtual 196, 3) := by decide +kernel
theorem dX7_hour_124 : decode cX7_hour 124 = .ok (.iinc 1 1, 3) := by decide +kernel
theorem dX7_hour_127 : decode cX7_hour 127 = .ok (.goto (-25), 3) := by decide +kernel
theorem dX7_hour_130 : decode cX7_hour 130 = .ok (.return_, 1) := by decide +kernel
theorem dX7_run_0 : decode cX7_run 0 = .ok (.aload_n 0, 1) := by decide +kernel
theorem dX7_run_1 : decode cX7_run 1 = .ok (.iload_n 1, 1) := by decide +kernel
theorem dX7_run_2 : decode cX7_run 2 = .ok (.ifCond .lt 9, 3) := by decide +kernel
theorem dX7_run_5 : decode cX7_run 5 = .ok (.iload_n 1, 1) := by decide +kernel
theorem dX7_run_6 : decode cX7_run 6 = .ok (.bipush 100, 2) := by decide +kernel
theorem dX7_run_8 : decode cX7_run 8 = .ok (.if_icmp .le 7, 3) := by decide +kernel
theorem dX7_run_11 : decode cX7_run 11 = .ok (.iconst 1, 1) := by decide +kernel
theorem dX7_run_12 : decode cX7_run 12 = .ok (.goto 4, 3) := by decide +kernel
theorem dX7_run_15 : decode cX7_run 15 = .ok (.iconst 0, 1) := by decide +kernel
theorem dX7_run_16 : decode cX7_run 16 = .ok (.putfield 78, 3) := by decide +kernel
theorem dX7_run_19 : decode cX7_run 19 = .ok (.iconst 0, 1) := by decide +kernel
theorem dX7_run_20 : decode cX7_run 20 = .ok (.istore_n 2, 1) := by decide +kernel
theorem dX7_run_21 : decode cX7_run 21 = .ok (.iload_n 2, 1) := by decide +kernel
theorem dX7_run_22 : decode cX7_run 22 = .ok (.iload_n 1, 1) := by decide +kernel
theorem dX7_run_23 : decode cX7_run 23 = .ok (.if_icmp .ge 34, 3) := by decide +kernel
theorem dX7_run_26 : decode cX7_run 26 = .ok (.aload_n 0, 1) := by decide +kernel
theorem dX7_run_27 : decode cX7_run 27 = .ok (.getfield 78, 3) := by decide +kernel
theorem dX7_run_30 : decode cX7_run 30 = .ok (.ifCond .ne 27, 3) := by decide +kernel
theorem dX7_run_33 : decode cX7_run 33 = .ok (.aload_n 0, 1) := by decide +kernel
theorem dX7_run_34 : decode cX7_run 34 = .ok (.invokevirtual 199, 3) := by decide +kernel
theorem dX7_run_37 : decode cX7_run 37 = .ok (.ifCond .eq 10, 3) := by decide +kernel
theorem dX7_run_40 : decode cX7_run 40 = .ok (.iconst (-1), 1) := by decide +kernel
theorem dX7_run_41 : decode cX7_run 41 = .ok (.aload_n 0, 1) := by decide +kernel
theorem dX7_run_42 : decode cX7_run 42 = .ok (.getfield 152, 3) := by decide +kernel
theorem dX7_run_45 : decode cX7_run 45 = .ok (.isub, 1) := by decide +kernel
theorem dX7_run_46 : decode cX7_run 46 = .ok (.ireturn, 1) := by decide +kernel
theorem dX7_run_47 : decode cX7_run 47 = .ok (.aload_n 0, 1) := by decide +kernel
theorem dX7_run_48 : decode cX7_run 48 = .ok (.invokevirtual 202, 3) := by decide +kernel
theorem dX7_run_51 : decode cX7_run 51 = .ok (.iinc 2 1, 3) := by decide +kernel
theorem dX7_run_54 : decode cX7_run 54 = .ok (.goto (-33), 3) := by decide +kernel
theorem dX7_run_57 : decode cX7_run 57 = .ok (.aload_n 0, 1) := by decide +kernel
theorem dX7_run_58 : decode cX7_run 58 = .ok (.getfield 78, 3) := by decide +kernel
theorem dX7_run_61 : decode cX7_run 61 = .ok (.ifCond .le 7, 3) := by decide +kernel
theorem dX7_run_64 : decode cX7_run 64 = .ok (.iconst 0, 1) := by decide +kernel
theorem dX7_run_65 : decode cX7_run 65 = .ok (.goto 7, 3) := by decide +kernel
theorem dX7_run_68 : decode cX7_run 68 = .ok (.aload_n 0, 1) := by decide +kernel
theorem dX7_run_69 : decode cX7_run 69 = .ok (.getfield 152, 3) := by decide +kernel
theorem dX7_run_72 : decode cX7_run 72 = .ok (.ireturn, 1) := by decide +kernel
theorem dX7_limit_0 : decode cX7_limit 0 = .ok (.aload_n 0, 1) := by decide +kernel
theorem dX7_limit_1 : decode cX7_limit 1 = .ok (.aload_n 0, 1) := by decide +kernel
theorem dX7_limit_2 : decode cX7_limit 2 = .ok (.iload_n 1, 1) := by decide +kernel
theorem dX7_limit_3 : decode cX7_limit 3 = .ok (.invokevirtual 81, 3) := by decide +kernel
theorem dX7_limit_6 : decode cX7_limit 6 = .ok (.ifCond .eq 7, 3) := by decide +kernel
theorem dX7_limit_9 : decode cX7_limit 9 = .ok (.iconst 1, 1) := by decide +kernel
theorem dX7_limit_10 : decode cX7_limit 10 = .ok (.goto 27, 3) := by decide +kernel
theorem dX7_limit_13 : decode cX7_limit 13 = .ok (.dload_n 2, 1) := by decide +kernel
theorem dX7_limit_14 : decode cX7_limit 14 = .ok (.dconst 0, 1) := by decide +kernel
theorem dX7_limit_15 : decode cX7_limit 15 = .ok (.dcmp .l, 1) := by decide +kernel
theorem dX7_limit_16 : decode cX7_limit 16 = .ok (.ifCond .ge 7, 3) := by decide +kernel
theorem dX7_limit_19 : decode cX7_limit 19 = .ok (.iconst 2, 1) := by decide +kernel
theorem dX7_limit_20 : decode cX7_limit 20 = .ok (.goto 17, 3) := by decide +kernel
theorem dX7_limit_23 : decode cX7_limit 23 = .ok (.aload_n 0, 1) := by decide +kernel
theorem dX7_limit_24 : decode cX7_limit 24 = .ok (.getfield 30, 3) := by decide +kernel
theorem dX7_limit_27 : decode cX7_limit 27 = .ok (.iload_n 1, 1) := by decide +kernel
theorem dX7_limit_28 : decode cX7_limit 28 = .ok (.baload, 1) := by decide +kernel
theorem dX7_limit_29 : decode cX7_limit 29 = .ok (.ifCond .eq 7, 3) := by decide +kernel
theorem dX7_limit_32 : decode cX7_limit 32 = .ok (.iconst 0, 1) := by decide +kernel
theorem dX7_limit_33 : decode cX7_limit 33 = .ok (.goto 4, 3) := by decide +kernel
theorem dX7_limit_36 : decode cX7_limit 36 = .ok (.iconst 3, 1) := by decide +kernel
theorem dX7_limit_37 : decode cX7_limit 37 = .ok (.putfield 78, 3) := by decide +kernel
theorem dX7_limit_40 : decode cX7_limit 40 = .ok (.aload_n 0, 1) := by decide +kernel
theorem dX7_limit_41 : decode cX7_limit 41 = .ok (.getfield 78, 3) := by decide +kernel
theorem dX7_limit_44 : decode cX7_limit 44 = .ok (.ifCond .ne 24, 3) := by decide +kernel
theorem dX7_limit_47 : decode cX7_limit 47 = .ok (.aload_n 0, 1) := by decide +kernel
theorem dX7_limit_48 : decode cX7_limit 48 = .ok (.getfield 47, 3) := by decide +kernel
theorem dX7_limit_51 : decode cX7_limit 51 = .ok (.iload_n 1, 1) := by decide +kernel
theorem dX7_limit_52 : decode cX7_limit 52 = .ok (.iconst 1, 1) := by decide +kernel
theorem dX7_limit_53 : decode cX7_limit 53 = .ok (.bastore, 1) := by decide +kernel
theorem dX7_limit_54 : decode cX7_limit 54 = .ok (.aload_n 0, 1) := by decide +kernel
theorem dX7_limit_55 : decode cX7_limit 55 = .ok (.getfield 50, 3) := by decide +kernel
theorem dX7_limit_58 : decode cX7_limit 58 = .ok (.iload_n 1, 1) := by decide +kernel
theorem dX7_limit_59 : decode cX7_limit 59 = .ok (.dload_n 2, 1) := by decide +kernel
theorem dX7_limit_60 : decode cX7_limit 60 = .ok (.dastore, 1) := by decide +kernel
theorem dX7_limit_61 : decode cX7_limit 61 = .ok (.aload_n 0, 1) := by decide +kernel
theorem dX7_limit_62 : decode cX7_limit 62 = .ok (.getfield 53, 3) := by decide +kernel
theorem dX7_limit_65 : decode cX7_limit 65 = .ok (.iload_n 1, 1) := by decide +kernel
theorem dX7_limit_66 : decode cX7_limit 66 = .ok (.iconst (-1), 1) := by decide +kernel
theorem dX7_limit_67 : decode cX7_limit 67 = .ok (.iastore, 1) := by decide +kernel
theorem dX7_limit_68 : decode cX7_limit 68 = .ok (.return_, 1) := by decide +kernel
theorem dX7_isMissing_0 : decode cX7_isMissing 0 = .ok (.aload_n 0, 1) := by decide +kernel
theorem dX7_isMissing_1 : decode cX7_isMissing 1 = .ok (.iload_n 2, 1) := by decide +kernel
theorem dX7_isMissing_2 : decode cX7_isMissing 2 = .ok (.ifCond .eq 7, 3) := by decide +kernel
theorem dX7_isMissing_5 : decode cX7_isMissing 5 = .ok (.iconst 1, 1) := by decide +kernel
theorem dX7_isMissing_6 : decode cX7_isMissing 6 = .ok (.goto 17, 3) := by decide +kernel
theorem dX7_isMissing_9 : decode cX7_isMissing 9 = .ok (.aload_n 0, 1) := by decide +kernel
theorem dX7_isMissing_10 : decode cX7_isMissing 10 = .ok (.getfield 30, 3) := by decide +kernel
theorem dX7_isMissing_13 : decode cX7_isMissing 13 = .ok (.iload_n 1, 1) := by decide +kernel
theorem dX7_isMissing_14 : decode cX7_isMissing 14 = .ok (.baload, 1) := by decide +kernel
theorem dX7_isMissing_15 : decode cX7_isMissing 15 = .ok (.ifCond .eq 7, 3) := by decide +kernel
theorem dX7_isMissing_18 : decode cX7_isMissing 18 = .ok (.iconst 0, 1) := by decide +kernel
theorem dX7_isMissing_19 : decode cX7_isMissing 19 = .ok (.goto 4, 3) := by decide +kernel
theorem dX7_isMissing_22 : decode cX7_isMissing 22 = .ok (.iconst 2, 1) := by decide +kernel
theorem dX7_isMissing_23 : decode cX7_isMissing 23 = .ok (.putfield 78, 3) := by decide +kernel
theorem dX7_isMissing_26 : decode cX7_isMissing 26 = .ok (.aload_n 0, 1) := by decide +kernel
theorem dX7_isMissing_27 : decode cX7_isMissing 27 = .ok (.getfield 78, 3) := by decide +kernel
theorem dX7_isMissing_30 : decode cX7_isMissing 30 = .ok (.ifCond .le 7, 3) := by decide +kernel
theorem dX7_isMissing_33 : decode cX7_isMissing 33 = .ok (.iconst 1, 1) := by decide +kernel
theorem dX7_isMissing_34 : decode cX7_isMissing 34 = .ok (.goto 4, 3) := by decide +kernel
theorem dX7_isMissing_37 : decode cX7_isMissing 37 = .ok (.iconst 0, 1) := by decide +kernel
theorem dX7_isMissing_38 : decode cX7_isMissing 38 = .ok (.ireturn, 1) := by decide +kernel
theorem dX7_check_0 : decode cX7_check 0 = .ok (.aload_n 0, 1) := by decide +kernel
theorem dX7_check_1 : decode cX7_check 1 = .ok (.iload_n 1, 1) := by decide +kernel
theorem dX7_check_2 : decode cX7_check 2 = .ok (.aload_n 0, 1) := by decide +kernel
theorem dX7_check_3 : decode cX7_check 3 = .ok (.iload_n 1, 1) := by decide +kernel
theorem dX7_check_4 : decode cX7_check 4 = .ok (.invokevirtual 81, 3) := by decide +kernel
theorem dX7_check_7 : decode cX7_check 7 = .ok (.invokevirtual 205, 3) := by decide +kernel
theorem dX7_check_10 : decode cX7_check 10 = .ok (.ifCond .eq 7, 3) := by decide +kernel
theorem dX7_check_13 : decode cX7_check 13 = .ok (.iconst 0, 1) := by decide +kernel
theorem dX7_check_14 : decode cX7_check 14 = .ok (.goto 9, 3) := by decide +kernel
theorem dX7_check_17 : decode cX7_check 17 = .ok (.aload_n 0, 1) := by decide +kernel
theorem dX7_check_18 : decode cX7_check 18 = .ok (.getfield 53, 3) := by decide +kernel
theorem dX7_check_21 : decode cX7_check 21 = .ok (.iload_n 1, 1) := by decide +kernel
theorem dX7_check_22 : decode cX7_check 22 = .ok (.iaload, 1) := by decide +kernel
theorem dX7_check_23 : decode cX7_check 23 = .ok (.ireturn, 1) := by decide +kernel
theorem dX7_wet_0 : decode cX7_wet 0 = .ok (.aload_n 0, 1) := by decide +kernel
theorem dX7_wet_1 : decode cX7_wet 1 = .ok (.iload_n 1, 1) := by decide +kernel
theorem dX7_wet_2 : decode cX7_wet 2 = .ok (.aload_n 0, 1) := by decide +kernel
theorem dX7_wet_3 : decode cX7_wet 3 = .ok (.iload_n 1, 1) := by decide +kernel
theorem dX7_wet_4 : decode cX7_wet 4 = .ok (.iload_n 2, 1) := by decide +kernel
theorem dX7_wet_5 : decode cX7_wet 5 = .ok (.invokevirtual 102, 3) := by decide +kernel
theorem dX7_wet_8 : decode cX7_wet 8 = .ok (.invokevirtual 205, 3) := by decide +kernel
theorem dX7_wet_11 : decode cX7_wet 11 = .ok (.ifCond .eq 7, 3) := by decide +kernel
theorem dX7_wet_14 : decode cX7_wet 14 = .ok (.dconst 0, 1) := by decide +kernel
theorem dX7_wet_15 : decode cX7_wet 15 = .ok (.goto 14, 3) := by decide +kernel
theorem dX7_wet_18 : decode cX7_wet 18 = .ok (.aload_n 0, 1) := by decide +kernel
theorem dX7_wet_19 : decode cX7_wet 19 = .ok (.getfield 41, 3) := by decide +kernel
theorem dX7_wet_22 : decode cX7_wet 22 = .ok (.bipush 16, 2) := by decide +kernel
theorem dX7_wet_24 : decode cX7_wet 24 = .ok (.iload_n 1, 1) := by decide +kernel
theorem dX7_wet_25 : decode cX7_wet 25 = .ok (.imul, 1) := by decide +kernel
theorem dX7_wet_26 : decode cX7_wet 26 = .ok (.iload_n 2, 1) := by decide +kernel
theorem dX7_wet_27 : decode cX7_wet 27 = .ok (.iadd, 1) := by decide +kernel
theorem dX7_wet_28 : decode cX7_wet 28 = .ok (.daload, 1) := by decide +kernel
theorem dX7_wet_29 : decode cX7_wet 29 = .ok (.dreturn, 1) := by decide +kernel
theorem dX7_mean_0 : decode cX7_mean 0 = .ok (.aload_n 0, 1) := by decide +kernel
theorem dX7_mean_1 : decode cX7_mean 1 = .ok (.iload_n 1, 1) := by decide +kernel
theorem dX7_mean_2 : decode cX7_mean 2 = .ok (.aload_n 0, 1) := by decide +kernel
theorem dX7_mean_3 : decode cX7_mean 3 = .ok (.iload_n 1, 1) := by decide +kernel
theorem dX7_mean_4 : decode cX7_mean 4 = .ok (.invokevirtual 81, 3) := by decide +kernel
theorem dX7_mean_7 : decode cX7_mean 7 = .ok (.invokevirtual 205, 3) := by decide +kernel
theorem dX7_mean_10 : decode cX7_mean 10 = .ok (.ifCond .eq 7, 3) := by decide +kernel
theorem dX7_mean_13 : decode cX7_mean 13 = .ok (.dconst 0, 1) := by decide +kernel
theorem dX7_mean_14 : decode cX7_mean 14 = .ok (.goto 8, 3) := by decide +kernel
theorem dX7_mean_17 : decode cX7_mean 17 = .ok (.aload_n 0, 1) := by decide +kernel
theorem dX7_mean_18 : decode cX7_mean 18 = .ok (.iload_n 1, 1) := by decide +kernel
theorem dX7_mean_19 : decode cX7_mean 19 = .ok (.invokevirtual 155, 3) := by decide +kernel
theorem dX7_mean_22 : decode cX7_mean 22 = .ok (.dreturn, 1) := by decide +kernel
theorem dX7_stress_0 : decode cX7_stress 0 = .ok (.aload_n 0, 1) := by decide +kernel
theorem dX7_stress_1 : decode cX7_stress 1 = .ok (.iload_n 1, 1) := by decide +kernel
theorem dX7_stress_2 : decode cX7_stress 2 = .ok (.aload_n 0, 1) := by decide +kernel
theorem dX7_stress_3 : decode cX7_stress 3 = .ok (.iload_n 1, 1) := by decide +kernel
theorem dX7_stress_4 : decode cX7_stress 4 = .ok (.iload_n 2, 1) := by decide +kernel
theorem dX7_stress_5 : decode cX7_stress 5 = .ok (.invokevirtual 102, 3) := by decide +kernel
theorem dX7_stress_8 : decode cX7_stress 8 = .ok (.invokevirtual 205, 3) := by decide +kernel
theorem dX7_stress_11 : decode cX7_stress 11 = .ok (.ifCond .eq 7, 3) := by decide +kernel
theorem dX7_stress_14 : decode cX7_stress 14 = .ok (.dconst 0, 1) := by decide +kernel
theorem dX7_stress_15 : decode cX7_stress 15 = .ok (.goto 9, 3) := by decide +kernel
theorem dX7_stress_18 : decode cX7_stress 18 = .ok (.aload_n 0, 1) := by decide +kernel
theorem dX7_stress_19 : decode cX7_stress 19 = .ok (.iload_n 1, 1) := by decide +kernel
theorem dX7_stress_20 : decode cX7_stress 20 = .ok (.iload_n 2, 1) := by decide +kernel
theorem dX7_stress_21 : decode cX7_stress 21 = .ok (.invokevirtual 186, 3) := by decide +kernel
theorem dX7_stress_24 : decode cX7_stress 24 = .ok (.dreturn, 1) := by decide +kernel
theorem dX7_balance_0 : decode cX7_balance 0 = .ok (.aload_n 0, 1) := by decide +kernel
theorem dX7_balance_1 : decode cX7_balance 1 = .ok (.iconst 0, 1) := by decide +kernel
theorem dX7_balance_2 : decode cX7_balance 2 = .ok (.putfield 78, 3) := by decide +kernel
theorem dX7_balance_5 : decode cX7_balance 5 = .ok (.aload_n 0, 1) := by decide +kernel
theorem dX7_balance_6 : decode cX7_balance 6 = .ok (.invokevirtual 162, 3) := by decide +kernel
theorem dX7_balance_9 : decode cX7_balance 9 = .ok (.dreturn, 1) := by decide +kernel
theorem dX7_told_0 : decode cX7_told 0 = .ok (.aload_n 0, 1) := by decide +kernel
theorem dX7_told_1 : decode cX7_told 1 = .ok (.iload_n 1, 1) := by decide +kernel
theorem dX7_told_2 : decode cX7_told 2 = .ok (.ifCond .lt 8, 3) := by decide +kernel
theorem dX7_told_5 : decode cX7_told 5 = .ok (.iload_n 1, 1) := by decide +kernel
theorem dX7_told_6 : decode cX7_told 6 = .ok (.iconst 4, 1) := by decide +kernel
theorem dX7_told_7 : decode cX7_told 7 = .ok (.if_icmp .le 7, 3) := by decide +kernel
theorem dX7_told_10 : decode cX7_told 10 = .ok (.iconst 1, 1) := by decide +kernel
theorem dX7_told_11 : decode cX7_told 11 = .ok (.goto 4, 3) := by decide +kernel
theorem dX7_told_14 : decode cX7_told 14 = .ok (.iconst 0, 1) := by decide +kernel
theorem dX7_told_15 : decode cX7_told 15 = .ok (.putfield 78, 3) := by decide +kernel
theorem dX7_told_18 : decode cX7_told 18 = .ok (.aload_n 0, 1) := by decide +kernel
theorem dX7_told_19 : decode cX7_told 19 = .ok (.getfield 78, 3) := by decide +kernel
theorem dX7_told_22 : decode cX7_told 22 = .ok (.ifCond .le 7, 3) := by decide +kernel
theorem dX7_told_25 : decode cX7_told 25 = .ok (.dconst 0, 1) := by decide +kernel
theorem dX7_told_26 : decode cX7_told 26 = .ok (.goto 54, 3) := by decide +kernel
theorem dX7_told_29 : decode cX7_told 29 = .ok (.iload_n 1, 1) := by decide +kernel
theorem dX7_told_30 : decode cX7_told 30 = .ok (.ifCond .ne 10, 3) := by decide +kernel
theorem dX7_told_33 : decode cX7_told 33 = .ok (.aload_n 0, 1) := by decide +kernel
theorem dX7_told_34 : decode cX7_told 34 = .ok (.getfield 18, 3) := by decide +kernel
theorem dX7_told_37 : decode cX7_told 37 = .ok (.goto 43, 3) := by decide +kernel
theorem dX7_told_40 : decode cX7_told 40 = .ok (.iload_n 1, 1) := by decide +kernel
theorem dX7_told_41 : decode cX7_told 41 = .ok (.iconst 1, 1) := by decide +kernel
theorem dX7_told_42 : decode cX7_told 42 = .ok (.if_icmp .ne 10, 3) := by decide +kernel
theorem dX7_told_45 : decode cX7_told 45 = .ok (.aload_n 0, 1) := by decide +kernel
theorem dX7_told_46 : decode cX7_told 46 = .ok (.getfield 24, 3) := by decide +kernel
theorem dX7_told_49 : decode cX7_told 49 = .ok (.goto 31, 3) := by decide +kernel
theorem dX7_told_52 : decode cX7_told 52 = .ok (.iload_n 1, 1) := by decide +kernel
theorem dX7_told_53 : decode cX7_told 53 = .ok (.iconst 2, 1) := by decide +kernel
theorem dX7_told_54 : decode cX7_told 54 = .ok (.if_icmp .ne 10, 3) := by decide +kernel
theorem dX7_told_57 : decode cX7_told 57 = .ok (.aload_n 0, 1) := by decide +kernel
theorem dX7_told_58 : decode cX7_told 58 = .ok (.getfield 27, 3) := by decide +kernel
theorem dX7_told_61 : decode cX7_told 61 = .ok (.goto 19, 3) := by decide +kernel
theorem dX7_told_64 : decode cX7_told 64 = .ok (.iload_n 1, 1) := by decide +kernel
theorem dX7_told_65 : decode cX7_told 65 = .ok (.iconst 3, 1) := by decide +kernel
theorem dX7_told_66 : decode cX7_told 66 = .ok (.if_icmp .ne 10, 3) := by decide +kernel
theorem dX7_told_69 : decode cX7_told 69 = .ok (.aload_n 0, 1) := by decide +kernel
theorem dX7_told_70 : decode cX7_told 70 = .ok (.getfield 99, 3) := by decide +kernel
theorem dX7_told_73 : decode cX7_told 73 = .ok (.goto 7, 3) := by decide +kernel
theorem dX7_told_76 : decode cX7_told 76 = .ok (.aload_n 0, 1) := by decide +kernel
theorem dX7_told_77 : decode cX7_told 77 = .ok (.getfield 172, 3) := by decide +kernel
theorem dX7_told_80 : decode cX7_told 80 = .ok (.dreturn, 1) := by decide +kernel
theorem dX7_grams_0 : decode cX7_grams 0 = .ok (.aload_n 0, 1) := by decide +kernel
theorem dX7_grams_1 : decode cX7_grams 1 = .ok (.iconst 0, 1) := by decide +kernel
theorem dX7_grams_2 : decode cX7_grams 2 = .ok (.putfield 78, 3) := by decide +kernel
theorem dX7_grams_5 : decode cX7_grams 5 = .ok (.aload_n 0, 1) := by decide +kernel
theorem dX7_grams_6 : decode cX7_grams 6 = .ok (.getfield 175, 3) := by decide +kernel
theorem dX7_grams_9 : decode cX7_grams 9 = .ok (.lreturn, 1) := by decide +kernel
theorem dX7_count_0 : decode cX7_count 0 = .ok (.aload_n 0, 1) := by decide +kernel
theorem dX7_count_1 : decode cX7_count 1 = .ok (.iload_n 1, 1) := by decide +kernel
theorem dX7_count_2 : decode cX7_count 2 = .ok (.ifCond .lt 8, 3) := by decide +kernel
end
section
theorem dX7_count_5 : decode cX7_count 5 = .ok (.iload_n 1, 1) := by decide +kernel
theorem dX7_count_6 : decode cX7_count 6 = .ok (.iconst 2, 1) := by decide +kernel
theorem dX7_count_7 : decode cX7_count 7 = .ok (.if_icmp .le 7, 3) := by decide +kernel
theorem dX7_count_10 : decode cX7_count 10 = .ok (.iconst 1, 1) := by decide +kernel
theorem dX7_count_11 : decode cX7_count 11 = .ok (.goto 4, 3) := by decide +kernel
theorem dX7_count_14 : decode cX7_count 14 = .ok (.iconst 0, 1) := by decide +kernel
theorem dX7_count_15 : decode cX7_count 15 = .ok (.putfield 78, 3) := by decide +kernel
theorem dX7_count_18 : decode cX7_count 18 = .ok (.aload_n 0, 1) := by decide +kernel
theorem dX7_count_19 : decode cX7_count 19 = .ok (.getfield 78, 3) := by decide +kernel
theorem dX7_count_22 : decode cX7_count 22 = .ok (.ifCond .gt 8, 3) := by decide +kernel
theorem dX7_count_25 : decode cX7_count 25 = .ok (.iload_n 1, 1) := by decide +kernel
theorem dX7_count_26 : decode cX7_count 26 = .ok (.iconst 2, 1) := by decide +kernel
theorem dX7_count_27 : decode cX7_count 27 = .ok (.if_icmp .ge 30, 3) := by decide +kernel
theorem dX7_count_30 : decode cX7_count 30 = .ok (.aload_n 0, 1) := by decide +kernel
theorem dX7_count_31 : decode cX7_count 31 = .ok (.getfield 78, 3) := by decide +kernel
theorem dX7_count_34 : decode cX7_count 34 = .ok (.ifCond .le 7, 3) := by decide +kernel
theorem dX7_count_37 : decode cX7_count 37 = .ok (.iconst 0, 1) := by decide +kernel
theorem dX7_count_38 : decode cX7_count 38 = .ok (.goto 18, 3) := by decide +kernel
theorem dX7_count_41 : decode cX7_count 41 = .ok (.iload_n 1, 1) := by decide +kernel
theorem dX7_count_42 : decode cX7_count 42 = .ok (.ifCond .ne 10, 3) := by decide +kernel
theorem dX7_count_45 : decode cX7_count 45 = .ok (.aload_n 0, 1) := by decide +kernel
theorem dX7_count_46 : decode cX7_count 46 = .ok (.getfield 152, 3) := by decide +kernel
theorem dX7_count_49 : decode cX7_count 49 = .ok (.goto 7, 3) := by decide +kernel
theorem dX7_count_52 : decode cX7_count 52 = .ok (.aload_n 0, 1) := by decide +kernel
theorem dX7_count_53 : decode cX7_count 53 = .ok (.getfield 134, 3) := by decide +kernel
theorem dX7_count_56 : decode cX7_count 56 = .ok (.ireturn, 1) := by decide +kernel
theorem dX7_count_57 : decode cX7_count 57 = .ok (.iconst 0, 1) := by decide +kernel
theorem dX7_count_58 : decode cX7_count 58 = .ok (.istore_n 2, 1) := by decide +kernel
theorem dX7_count_59 : decode cX7_count 59 = .ok (.iconst 0, 1) := by decide +kernel
theorem dX7_count_60 : decode cX7_count 60 = .ok (.istore_n 3, 1) := by decide +kernel
theorem dX7_count_61 : decode cX7_count 61 = .ok (.iload_n 3, 1) := by decide +kernel
theorem dX7_count_62 : decode cX7_count 62 = .ok (.aload_n 0, 1) := by decide +kernel
theorem dX7_count_63 : decode cX7_count 63 = .ok (.getfield 75, 3) := by decide +kernel
theorem dX7_count_66 : decode cX7_count 66 = .ok (.if_icmp .ge 26, 3) := by decide +kernel
theorem dX7_count_69 : decode cX7_count 69 = .ok (.aload_n 0, 1) := by decide +kernel
theorem dX7_count_70 : decode cX7_count 70 = .ok (.getfield 30, 3) := by decide +kernel
theorem dX7_count_73 : decode cX7_count 73 = .ok (.iload_n 3, 1) := by decide +kernel
theorem dX7_count_74 : decode cX7_count 74 = .ok (.baload, 1) := by decide +kernel
theorem dX7_count_75 : decode cX7_count 75 = .ok (.ifCond .eq 9, 3) := by decide +kernel
theorem dX7_count_78 : decode cX7_count 78 = .ok (.iload_n 2, 1) := by decide +kernel
theorem dX7_count_79 : decode cX7_count 79 = .ok (.iconst 1, 1) := by decide +kernel
theorem dX7_count_80 : decode cX7_count 80 = .ok (.iadd, 1) := by decide +kernel
theorem dX7_count_81 : decode cX7_count 81 = .ok (.goto 4, 3) := by decide +kernel
theorem dX7_count_84 : decode cX7_count 84 = .ok (.iload_n 2, 1) := by decide +kernel
theorem dX7_count_85 : decode cX7_count 85 = .ok (.istore_n 2, 1) := by decide +kernel
theorem dX7_count_86 : decode cX7_count 86 = .ok (.iinc 3 1, 3) := by decide +kernel
theorem dX7_count_89 : decode cX7_count 89 = .ok (.goto (-28), 3) := by decide +kernel
theorem dX7_count_92 : decode cX7_count 92 = .ok (.iload_n 2, 1) := by decide +kernel
theorem dX7_count_93 : decode cX7_count 93 = .ok (.ireturn, 1) := by decide +kernel
theorem dJx00060_init_a7421_0 : decode cJx00060_init_a7421 0 = .ok (.aload_n 0, 1) := by decide +kernel
theorem dJx00060_init_a7421_1 : decode cJx00060_init_a7421 1 = .ok (.aload_n 1, 1) := by decide +kernel
theorem dJx00060_init_a7421_2 : decode cJx00060_init_a7421 2 = .ok (.invokespecial 7, 3) := by decide +kernel
theorem dJx00060_init_a7421_5 : decode cJx00060_init_a7421 5 = .ok (.return_, 1) := by decide +kernel
theorem dJ9_max_7cf53_0 : decode cJ9_max_7cf53 0 = .ok (.iload_n 0, 1) := by decide +kernel
theorem dJ9_max_7cf53_1 : decode cJ9_max_7cf53 1 = .ok (.iload_n 1, 1) := by decide +kernel
theorem dJ9_max_7cf53_2 : decode cJ9_max_7cf53 2 = .ok (.if_icmp .lt 7, 3) := by decide +kernel
theorem dJ9_max_7cf53_5 : decode cJ9_max_7cf53 5 = .ok (.iload_n 0, 1) := by decide +kernel
theorem dJ9_max_7cf53_6 : decode cJ9_max_7cf53 6 = .ok (.goto 4, 3) := by decide +kernel
theorem dJ9_max_7cf53_9 : decode cJ9_max_7cf53 9 = .ok (.iload_n 1, 1) := by decide +kernel
theorem dJ9_max_7cf53_10 : decode cJ9_max_7cf53 10 = .ok (.ireturn, 1) := by decide +kernel
theorem dJ9_min_7cf53_0 : decode cJ9_min_7cf53 0 = .ok (.iload_n 0, 1) := by decide +kernel
theorem dJ9_min_7cf53_1 : decode cJ9_min_7cf53 1 = .ok (.iload_n 1, 1) := by decide +kernel
theorem dJ9_min_7cf53_2 : decode cJ9_min_7cf53 2 = .ok (.if_icmp .gt 7, 3) := by decide +kernel
theorem dJ9_min_7cf53_5 : decode cJ9_min_7cf53 5 = .ok (.iload_n 0, 1) := by decide +kernel
theorem dJ9_min_7cf53_6 : decode cJ9_min_7cf53 6 = .ok (.goto 4, 3) := by decide +kernel
theorem dJ9_min_7cf53_9 : decode cJ9_min_7cf53 9 = .ok (.iload_n 1, 1) := by decide +kernel
theorem dJ9_min_7cf53_10 : decode cJ9_min_7cf53 10 = .ok (.ireturn, 1) := by decide +kernel
theorem dL_cell_0 : decode cL_cell 0 = .ok (.iload_n 1, 1) := by decide +kernel
theorem dL_cell_1 : decode cL_cell 1 = .ok (.aload_n 0, 1) := by decide +kernel
theorem dL_cell_2 : decode cL_cell 2 = .ok (.arraylength, 1) := by decide +kernel
theorem dL_cell_3 : decode cL_cell 3 = .ok (.if_icmp .ge 9, 3) := by decide +kernel
theorem dL_cell_6 : decode cL_cell 6 = .ok (.aload_n 0, 1) := by decide +kernel
theorem dL_cell_7 : decode cL_cell 7 = .ok (.iload_n 1, 1) := by decide +kernel
theorem dL_cell_8 : decode cL_cell 8 = .ok (.iaload, 1) := by decide +kernel
theorem dL_cell_9 : decode cL_cell 9 = .ok (.goto 4, 3) := by decide +kernel
theorem dL_cell_12 : decode cL_cell 12 = .ok (.iconst 0, 1) := by decide +kernel
theorem dL_cell_13 : decode cL_cell 13 = .ok (.ireturn, 1) := by decide +kernel
theorem dL_board_0 : decode cL_board 0 = .ok (.aload_n 0, 1) := by decide +kernel
theorem dL_board_1 : decode cL_board 1 = .ok (.iload_n 1, 1) := by decide +kernel
theorem dL_board_2 : decode cL_board 2 = .ok (.dload_n 2, 1) := by decide +kernel
theorem dL_board_3 : decode cL_board 3 = .ok (.dload 4, 2) := by decide +kernel
theorem dL_board_5 : decode cL_board 5 = .ok (.iload 6, 2) := by decide +kernel
theorem dL_board_7 : decode cL_board 7 = .ok (.invokevirtual 7, 3) := by decide +kernel
theorem dL_board_10 : decode cL_board 10 = .ok (.goto 11, 3) := by decide +kernel
theorem dL_board_13 : decode cL_board 13 = .ok (.astore 7, 2) := by decide +kernel
theorem dL_board_15 : decode cL_board 15 = .ok (.iconst 1, 1) := by decide +kernel
theorem dL_board_16 : decode cL_board 16 = .ok (.ireturn, 1) := by decide +kernel
theorem dL_board_17 : decode cL_board 17 = .ok (.astore 7, 2) := by decide +kernel
theorem dL_board_19 : decode cL_board 19 = .ok (.iconst 2, 1) := by decide +kernel
theorem dL_board_20 : decode cL_board 20 = .ok (.ireturn, 1) := by decide +kernel
theorem dL_board_21 : decode cL_board 21 = .ok (.iconst 0, 1) := by decide +kernel
theorem dL_board_22 : decode cL_board 22 = .ok (.ireturn, 1) := by decide +kernel
theorem dL_rate_0 : decode cL_rate 0 = .ok (.aload_n 0, 1) := by decide +kernel
theorem dL_rate_1 : decode cL_rate 1 = .ok (.iload_n 1, 1) := by decide +kernel
theorem dL_rate_2 : decode cL_rate 2 = .ok (.dload_n 2, 1) := by decide +kernel
theorem dL_rate_3 : decode cL_rate 3 = .ok (.dload 4, 2) := by decide +kernel
theorem dL_rate_5 : decode cL_rate 5 = .ok (.invokevirtual 17, 3) := by decide +kernel
theorem dL_rate_8 : decode cL_rate 8 = .ok (.goto 11, 3) := by decide +kernel
theorem dL_rate_11 : decode cL_rate 11 = .ok (.astore 6, 2) := by decide +kernel
theorem dL_rate_13 : decode cL_rate 13 = .ok (.iconst 1, 1) := by decide +kernel
theorem dL_rate_14 : decode cL_rate 14 = .ok (.ireturn, 1) := by decide +kernel
theorem dL_rate_15 : decode cL_rate 15 = .ok (.astore 6, 2) := by decide +kernel
theorem dL_rate_17 : decode cL_rate 17 = .ok (.iconst 2, 1) := by decide +kernel
theorem dL_rate_18 : decode cL_rate 18 = .ok (.ireturn, 1) := by decide +kernel
theorem dL_rate_19 : decode cL_rate 19 = .ok (.iconst 0, 1) := by decide +kernel
theorem dL_rate_20 : decode cL_rate 20 = .ok (.ireturn, 1) := by decide +kernel
theorem dL_air_0 : decode cL_air 0 = .ok (.aload_n 0, 1) := by decide +kernel
theorem dL_air_1 : decode cL_air 1 = .ok (.dload_n 1, 1) := by decide +kernel
theorem dL_air_2 : decode cL_air 2 = .ok (.dload_n 3, 1) := by decide +kernel
theorem dL_air_3 : decode cL_air 3 = .ok (.dload 5, 2) := by decide +kernel
theorem dL_air_5 : decode cL_air 5 = .ok (.invokevirtual 21, 3) := by decide +kernel
theorem dL_air_8 : decode cL_air 8 = .ok (.goto 7, 3) := by decide +kernel
theorem dL_air_11 : decode cL_air 11 = .ok (.astore 7, 2) := by decide +kernel
theorem dL_air_13 : decode cL_air 13 = .ok (.iconst 1, 1) := by decide +kernel
theorem dL_air_14 : decode cL_air 14 = .ok (.ireturn, 1) := by decide +kernel
theorem dL_air_15 : decode cL_air 15 = .ok (.iconst 0, 1) := by decide +kernel
theorem dL_air_16 : decode cL_air 16 = .ok (.ireturn, 1) := by decide +kernel
theorem dL_vent_0 : decode cL_vent 0 = .ok (.aload_n 0, 1) := by decide +kernel
theorem dL_vent_1 : decode cL_vent 1 = .ok (.dload_n 1, 1) := by decide +kernel
theorem dL_vent_2 : decode cL_vent 2 = .ok (.invokevirtual 25, 3) := by decide +kernel
theorem dL_vent_5 : decode cL_vent 5 = .ok (.goto 6, 3) := by decide +kernel
theorem dL_vent_8 : decode cL_vent 8 = .ok (.astore_n 3, 1) := by decide +kernel
theorem dL_vent_9 : decode cL_vent 9 = .ok (.iconst 1, 1) := by decide +kernel
theorem dL_vent_10 : decode cL_vent 10 = .ok (.ireturn, 1) := by decide +kernel
theorem dL_vent_11 : decode cL_vent 11 = .ok (.iconst 0, 1) := by decide +kernel
theorem dL_vent_12 : decode cL_vent 12 = .ok (.ireturn, 1) := by decide +kernel
theorem dL_soak_0 : decode cL_soak 0 = .ok (.aload_n 0, 1) := by decide +kernel
theorem dL_soak_1 : decode cL_soak 1 = .ok (.iload_n 1, 1) := by decide +kernel
theorem dL_soak_2 : decode cL_soak 2 = .ok (.iload_n 2, 1) := by decide +kernel
theorem dL_soak_3 : decode cL_soak 3 = .ok (.dload_n 3, 1) := by decide +kernel
theorem dL_soak_4 : decode cL_soak 4 = .ok (.invokevirtual 29, 3) := by decide +kernel
theorem dL_soak_7 : decode cL_soak 7 = .ok (.goto 15, 3) := by decide +kernel
theorem dL_soak_10 : decode cL_soak 10 = .ok (.astore 5, 2) := by decide +kernel
theorem dL_soak_12 : decode cL_soak 12 = .ok (.iconst 1, 1) := by decide +kernel
theorem dL_soak_13 : decode cL_soak 13 = .ok (.ireturn, 1) := by decide +kernel
theorem dL_soak_14 : decode cL_soak 14 = .ok (.astore 5, 2) := by decide +kernel
theorem dL_soak_16 : decode cL_soak 16 = .ok (.iconst 2, 1) := by decide +kernel
theorem dL_soak_17 : decode cL_soak 17 = .ok (.ireturn, 1) := by decide +kernel
theorem dL_soak_18 : decode cL_soak 18 = .ok (.astore 5, 2) := by decide +kernel
theorem dL_soak_20 : decode cL_soak 20 = .ok (.iconst 3, 1) := by decide +kernel
theorem dL_soak_21 : decode cL_soak 21 = .ok (.ireturn, 1) := by decide +kernel
theorem dL_soak_22 : decode cL_soak 22 = .ok (.iconst 0, 1) := by decide +kernel
theorem dL_soak_23 : decode cL_soak 23 = .ok (.ireturn, 1) := by decide +kernel
theorem dL_run_0 : decode cL_run 0 = .ok (.aload_n 2, 1) := by decide +kernel
theorem dL_run_1 : decode cL_run 1 = .ok (.iconst 0, 1) := by decide +kernel
theorem dL_run_2 : decode cL_run 2 = .ok (.aload_n 0, 1) := by decide +kernel
theorem dL_run_3 : decode cL_run 3 = .ok (.iload_n 1, 1) := by decide +kernel
theorem dL_run_4 : decode cL_run 4 = .ok (.invokevirtual 35, 3) := by decide +kernel
theorem dL_run_7 : decode cL_run 7 = .ok (.i2l, 1) := by decide +kernel
theorem dL_run_8 : decode cL_run 8 = .ok (.lastore, 1) := by decide +kernel
theorem dL_run_9 : decode cL_run 9 = .ok (.goto 6, 3) := by decide +kernel
theorem dL_run_12 : decode cL_run 12 = .ok (.astore_n 3, 1) := by decide +kernel
theorem dL_run_13 : decode cL_run 13 = .ok (.iconst 1, 1) := by decide +kernel
theorem dL_run_14 : decode cL_run 14 = .ok (.ireturn, 1) := by decide +kernel
theorem dL_run_15 : decode cL_run 15 = .ok (.iconst 0, 1) := by decide +kernel
theorem dL_run_16 : decode cL_run 16 = .ok (.ireturn, 1) := by decide +kernel
theorem dL_limit_0 : decode cL_limit 0 = .ok (.aload_n 0, 1) := by decide +kernel
theorem dL_limit_1 : decode cL_limit 1 = .ok (.iload_n 1, 1) := by decide +kernel
theorem dL_limit_2 : decode cL_limit 2 = .ok (.dload_n 2, 1) := by decide +kernel
theorem dL_limit_3 : decode cL_limit 3 = .ok (.invokevirtual 39, 3) := by decide +kernel
theorem dL_limit_6 : decode cL_limit 6 = .ok (.goto 15, 3) := by decide +kernel
theorem dL_limit_9 : decode cL_limit 9 = .ok (.astore 4, 2) := by decide +kernel
theorem dL_limit_11 : decode cL_limit 11 = .ok (.iconst 1, 1) := by decide +kernel
theorem dL_limit_12 : decode cL_limit 12 = .ok (.ireturn, 1) := by decide +kernel
theorem dL_limit_13 : decode cL_limit 13 = .ok (.astore 4, 2) := by decide +kernel
theorem dL_limit_15 : decode cL_limit 15 = .ok (.iconst 2, 1) := by decide +kernel
theorem dL_limit_16 : decode cL_limit 16 = .ok (.ireturn, 1) := by decide +kernel
theorem dL_limit_17 : decode cL_limit 17 = .ok (.astore 4, 2) := by decide +kernel
theorem dL_limit_19 : decode cL_limit 19 = .ok (.iconst 3, 1) := by decide +kernel
theorem dL_limit_20 : decode cL_limit 20 = .ok (.ireturn, 1) := by decide +kernel
theorem dL_limit_21 : decode cL_limit 21 = .ok (.iconst 0, 1) := by decide +kernel
theorem dL_limit_22 : decode cL_limit 22 = .ok (.ireturn, 1) := by decide +kernel
theorem dL_check_0 : decode cL_check 0 = .ok (.aload_n 2, 1) := by decide +kernel
theorem dL_check_1 : decode cL_check 1 = .ok (.iconst 0, 1) := by decide +kernel
theorem dL_check_2 : decode cL_check 2 = .ok (.aload_n 0, 1) := by decide +kernel
theorem dL_check_3 : decode cL_check 3 = .ok (.iload_n 1, 1) := by decide +kernel
theorem dL_check_4 : decode cL_check 4 = .ok (.invokevirtual 43, 3) := by decide +kernel
theorem dL_check_7 : decode cL_check 7 = .ok (.i2l, 1) := by decide +kernel
theorem dL_check_8 : decode cL_check 8 = .ok (.lastore, 1) := by decide +kernel
theorem dL_check_9 : decode cL_check 9 = .ok (.goto 9, 3) := by decide +kernel
theorem dL_check_12 : decode cL_check 12 = .ok (.astore_n 3, 1) := by decide +kernel
theorem dL_check_13 : decode cL_check 13 = .ok (.iconst 1, 1) := by decide +kernel
theorem dL_check_14 : decode cL_check 14 = .ok (.ireturn, 1) := by decide +kernel
theorem dL_check_15 : decode cL_check 15 = .ok (.astore_n 3, 1) := by decide +kernel
theorem dL_check_16 : decode cL_check 16 = .ok (.iconst 2, 1) := by decide +kernel
theorem dL_check_17 : decode cL_check 17 = .ok (.ireturn, 1) := by decide +kernel
theorem dL_check_18 : decode cL_check 18 = .ok (.iconst 0, 1) := by decide +kernel
theorem dL_check_19 : decode cL_check 19 = .ok (.ireturn, 1) := by decide +kernel
theorem dL_wet_0 : decode cL_wet 0 = .ok (.aload_n 3, 1) := by decide +kernel
theorem dL_wet_1 : decode cL_wet 1 = .ok (.iconst 0, 1) := by decide +kernel
theorem dL_wet_2 : decode cL_wet 2 = .ok (.aload_n 0, 1) := by decide +kernel
theorem dL_wet_3 : decode cL_wet 3 = .ok (.iload_n 1, 1) := by decide +kernel
theorem dL_wet_4 : decode cL_wet 4 = .ok (.iload_n 2, 1) := by decide +kernel
theorem dL_wet_5 : decode cL_wet 5 = .ok (.invokevirtual 46, 3) := by decide +kernel
theorem dL_wet_8 : decode cL_wet 8 = .ok (.dastore, 1) := by decide +kernel
theorem dL_wet_9 : decode cL_wet 9 = .ok (.goto 11, 3) := by decide +kernel
theorem dL_wet_12 : decode cL_wet 12 = .ok (.astore 4, 2) := by decide +kernel
theorem dL_wet_14 : decode cL_wet 14 = .ok (.iconst 1, 1) := by decide +kernel
theorem dL_wet_15 : decode cL_wet 15 = .ok (.ireturn, 1) := by decide +kernel
theorem dL_wet_16 : decode cL_wet 16 = .ok (.astore 4, 2) := by decide +kernel
theorem dL_wet_18 : decode cL_wet 18 = .ok (.iconst 2, 1) := by decide +kernel
theorem dL_wet_19 : decode cL_wet 19 = .ok (.ireturn, 1) := by decide +kernel
theorem dL_wet_20 : decode cL_wet 20 = .ok (.iconst 0, 1) := by decide +kernel
theorem dL_wet_21 : decode cL_wet 21 = .ok (.ireturn, 1) := by decide +kernel
theorem dL_mean_0 : decode cL_mean 0 = .ok (.aload_n 2, 1) := by decide +kernel
theorem dL_mean_1 : decode cL_mean 1 = .ok (.iconst 0, 1) := by decide +kernel
theorem dL_mean_2 : decode cL_mean 2 = .ok (.aload_n 0, 1) := by decide +kernel
theorem dL_mean_3 : decode cL_mean 3 = .ok (.iload_n 1, 1) := by decide +kernel
theorem dL_mean_4 : decode cL_mean 4 = .ok (.invokevirtual 50, 3) := by decide +kernel
theorem dL_mean_7 : decode cL_mean 7 = .ok (.dastore, 1) := by decide +kernel
theorem dL_mean_8 : decode cL_mean 8 = .ok (.goto 9, 3) := by decide +kernel
theorem dL_mean_11 : decode cL_mean 11 = .ok (.astore_n 3, 1) := by decide +kernel
theorem dL_mean_12 : decode cL_mean 12 = .ok (.iconst 1, 1) := by decide +kernel
theorem dL_mean_13 : decode cL_mean 13 = .ok (.ireturn, 1) := by decide +kernel
theorem dL_mean_14 : decode cL_mean 14 = .ok (.astore_n 3, 1) := by decide +kernel
theorem dL_mean_15 : decode cL_mean 15 = .ok (.iconst 2, 1) := by decide +kernel
theorem dL_mean_16 : decode cL_mean 16 = .ok (.ireturn, 1) := by decide +kernel
theorem dL_mean_17 : decode cL_mean 17 = .ok (.iconst 0, 1) := by decide +kernel
theorem dL_mean_18 : decode cL_mean 18 = .ok (.ireturn, 1) := by decide +kernel
theorem dL_stress_0 : decode cL_stress 0 = .ok (.aload_n 3, 1) := by decide +kernel
theorem dL_stress_1 : decode cL_stress 1 = .ok (.iconst 0, 1) := by decide +kernel
theorem dL_stress_2 : decode cL_stress 2 = .ok (.aload_n 0, 1) := by decide +kernel
theorem dL_stress_3 : decode cL_stress 3 = .ok (.iload_n 1, 1) := by decide +kernel
theorem dL_stress_4 : decode cL_stress 4 = .ok (.iload_n 2, 1) := by decide +kernel
theorem dL_stress_5 : decode cL_stress 5 = .ok (.invokevirtual 54, 3) := by decide +kernel
theorem dL_stress_8 : decode cL_stress 8 = .ok (.dastore, 1) := by decide +kernel
theorem dL_stress_9 : decode cL_stress 9 = .ok (.goto 11, 3) := by decide +kernel
theorem dL_stress_12 : decode cL_stress 12 = .ok (.astore 4, 2) := by decide +kernel
theorem dL_stress_14 : decode cL_stress 14 = .ok (.iconst 1, 1) := by decide +kernel
theorem dL_stress_15 : decode cL_stress 15 = .ok (.ireturn, 1) := by decide +kernel
theorem dL_stress_16 : decode cL_stress 16 = .ok (.astore 4, 2) := by decide +kernel
theorem dL_stress_18 : decode cL_stress 18 = .ok (.iconst 2, 1) := by decide +kernel
theorem dL_stress_19 : decode cL_stress 19 = .ok (.ireturn, 1) := by decide +kernel
theorem dL_stress_20 : decode cL_stress 20 = .ok (.iconst 0, 1) := by decide +kernel
theorem dL_stress_21 : decode cL_stress 21 = .ok (.ireturn, 1) := by decide +kernel
theorem dL_told_0 : decode cL_told 0 = .ok (.aload_n 2, 1) := by decide +kernel
theorem dL_told_1 : decode cL_told 1 = .ok (.iconst 0, 1) := by decide +kernel
theorem dL_told_2 : decode cL_told 2 = .ok (.aload_n 0, 1) := by decide +kernel
theorem dL_told_3 : decode cL_told 3 = .ok (.iload_n 1, 1) := by decide +kernel
theorem dL_told_4 : decode cL_told 4 = .ok (.invokevirtual 57, 3) := by decide +kernel
theorem dL_told_7 : decode cL_told 7 = .ok (.dastore, 1) := by decide +kernel
theorem dL_told_8 : decode cL_told 8 = .ok (.goto 6, 3) := by decide +kernel
theorem dL_told_11 : decode cL_told 11 = .ok (.astore_n 3, 1) := by decide +kernel
theorem dL_told_12 : decode cL_told 12 = .ok (.iconst 1, 1) := by decide +kernel
theorem dL_told_13 : decode cL_told 13 = .ok (.ireturn, 1) := by decide +kernel
theorem dL_told_14 : decode cL_told 14 = .ok (.iconst 0, 1) := by decide +kernel
theorem dL_told_15 : decode cL_told 15 = .ok (.ireturn, 1) := by decide +kernel
theorem dL_count_0 : decode cL_count 0 = .ok (.aload_n 2, 1) := by decide +kernel
theorem dL_count_1 : decode cL_count 1 = .ok (.iconst 0, 1) := by decide +kernel
theorem dL_count_2 : decode cL_count 2 = .ok (.aload_n 0, 1) := by decide +kernel
theorem dL_count_3 : decode cL_count 3 = .ok (.iload_n 1, 1) := by decide +kernel
theorem dL_count_4 : decode cL_count 4 = .ok (.invokevirtual 60, 3) := by decide +kernel
theorem dL_count_7 : decode cL_count 7 = .ok (.i2l, 1) := by decide +kernel
theorem dL_count_8 : decode cL_count 8 = .ok (.lastore, 1) := by decide +kernel
theorem dL_count_9 : decode cL_count 9 = .ok (.goto 6, 3) := by decide +kernel
theorem dL_count_12 : decode cL_count 12 = .ok (.astore_n 3, 1) := by decide +kernel
theorem dL_count_13 : decode cL_count 13 = .ok (.iconst 1, 1) := by decide +kernel
theorem dL_count_14 : decode cL_count 14 = .ok (.ireturn, 1) := by decide +kernel
theorem dL_count_15 : decode cL_count 15 = .ok (.iconst 0, 1) := by decide +kernel
theorem dL_count_16 : decode cL_count 16 = .ok (.ireturn, 1) := by decide +kernel
theorem dL_law_0 : decode cL_law 0 = .ok (.new 8, 3) := by decide +kernel
theorem dL_law_3 : decode cL_law 3 = .ok (.dup, 1) := by decide +kernel
theorem dL_law_4 : decode cL_law 4 = .ok (.aload_n 0, 1) := by decide +kernel
theorem dL_law_5 : decode cL_law 5 = .ok (.iconst 0, 1) := by decide +kernel
theorem dL_law_6 : decode cL_law 6 = .ok (.invokestatic 63, 3) := by decide +kernel
theorem dL_law_9 : decode cL_law 9 = .ok (.aload_n 0, 1) := by decide +kernel
theorem dL_law_10 : decode cL_law 10 = .ok (.iconst 1, 1) := by decide +kernel
theorem dL_law_11 : decode cL_law 11 = .ok (.invokestatic 63, 3) := by decide +kernel
theorem dL_law_14 : decode cL_law 14 = .ok (.invokespecial 69, 3) := by decide +kernel
theorem dL_law_17 : decode cL_law 17 = .ok (.astore_n 1, 1) := by decide +kernel
theorem dL_law_18 : decode cL_law 18 = .ok (.new 72, 3) := by decide +kernel
theorem dL_law_21 : decode cL_law 21 = .ok (.dup, 1) := by decide +kernel
theorem dL_law_22 : decode cL_law 22 = .ok (.aload_n 0, 1) := by decide +kernel
theorem dL_law_23 : decode cL_law 23 = .ok (.iconst 0, 1) := by decide +kernel
theorem dL_law_24 : decode cL_law 24 = .ok (.invokestatic 63, 3) := by decide +kernel
theorem dL_law_27 : decode cL_law 27 = .ok (.aload_n 0, 1) := by decide +kernel
theorem dL_law_28 : decode cL_law 28 = .ok (.iconst 1, 1) := by decide +kernel
theorem dL_law_29 : decode cL_law 29 = .ok (.invokestatic 63, 3) := by decide +kernel
theorem dL_law_32 : decode cL_law 32 = .ok (.invokespecial 74, 3) := by decide +kernel
theorem dL_law_35 : decode cL_law 35 = .ok (.astore_n 2, 1) := by decide +kernel
theorem dL_law_36 : decode cL_law 36 = .ok (.iconst 1, 1) := by decide +kernel
theorem dL_law_37 : decode cL_law 37 = .ok (.newarray .long, 2) := by decide +kernel
theorem dL_law_39 : decode cL_law 39 = .ok (.astore_n 3, 1) := by decide +kernel
theorem dL_law_40 : decode cL_law 40 = .ok (.iconst 1, 1) := by decide +kernel
theorem dL_law_41 : decode cL_law 41 = .ok (.newarray .double, 2) := by decide +kernel
theorem dL_law_43 : decode cL_law 43 = .ok (.astore 4, 2) := by decide +kernel
theorem dL_law_45 : decode cL_law 45 = .ok (.iconst 2, 1) := by decide +kernel
theorem dL_law_46 : decode cL_law 46 = .ok (.istore 5, 2) := by decide +kernel
theorem dL_law_48 : decode cL_law 48 = .ok (.iload 5, 2) := by decide +kernel
theorem dL_law_50 : decode cL_law 50 = .ok (.aload_n 0, 1) := by decide +kernel
theorem dL_law_51 : decode cL_law 51 = .ok (.arraylength, 1) := by decide +kernel
theorem dL_law_52 : decode cL_law 52 = .ok (.iconst 5, 1) := by decide +kernel
theorem dL_law_53 : decode cL_law 53 = .ok (.isub, 1) := by decide +kernel
theorem dL_law_54 : decode cL_law 54 = .ok (.if_icmp .gt 1129, 3) := by decide +kernel
theorem dL_law_57 : decode cL_law 57 = .ok (.aload_n 0, 1) := by decide +kernel
theorem dL_law_58 : decode cL_law 58 = .ok (.iload 5, 2) := by decide +kernel
theorem dL_law_60 : decode cL_law 60 = .ok (.iaload, 1) := by decide +kernel
theorem dL_law_61 : decode cL_law 61 = .ok (.bipush 31, 2) := by decide +kernel
theorem dL_law_63 : decode cL_law 63 = .ok (.iand, 1) := by decide +kernel
theorem dL_law_64 : decode cL_law 64 = .ok (.tableswitch 1113 0 16 #[84, 176, 256, 346, 392, 462, 487, 500, 556, 614, 670, 759, 836, 925, 966, 1043, 1057], 84) := by decide +kernel
theorem dL_law_148 : decode cL_law 148 = .ok (.aload_n 1, 1) := by decide +kernel
theorem dL_law_149 : decode cL_law 149 = .ok (.aload_n 0, 1) := by decide +kernel
theorem dL_law_150 : decode cL_law 150 = .ok (.iload 5, 2) := by decide +kernel
theorem dL_law_152 : decode cL_law 152 = .ok (.iconst 1, 1) := by decide +kernel
theorem dL_law_153 : decode cL_law 153 = .ok (.iadd, 1) := by decide +kernel
theorem dL_law_154 : decode cL_law 154 = .ok (.iaload, 1) := by decide +kernel
theorem dL_law_155 : decode cL_law 155 = .ok (.aload_n 0, 1) := by decide +kernel
theorem dL_law_156 : decode cL_law 156 = .ok (.iload 5, 2) := by decide +kernel
theorem dL_law_158 : decode cL_law 158 = .ok (.iconst 2, 1) := by decide +kernel
theorem dL_law_159 : decode cL_law 159 = .ok (.iadd, 1) := by decide +kernel
theorem dL_law_160 : decode cL_law 160 = .ok (.iaload, 1) := by decide +kernel
theorem dL_law_161 : decode cL_law 161 = .ok (.i2d, 1) := by decide +kernel
theorem dL_law_162 : decode cL_law 162 = .ok (.ldc2_w 75, 3) := by decide +kernel
theorem dL_law_165 : decode cL_law 165 = .ok (.dmul, 1) := by decide +kernel
theorem dL_law_166 : decode cL_law 166 = .ok (.aload_n 0, 1) := by decide +kernel
theorem dL_law_167 : decode cL_law 167 = .ok (.iload 5, 2) := by decide +kernel
theorem dL_law_169 : decode cL_law 169 = .ok (.iconst 3, 1) := by decide +kernel
theorem dL_law_170 : decode cL_law 170 = .ok (.iadd, 1) := by decide +kernel
theorem dL_law_171 : decode cL_law 171 = .ok (.iaload, 1) := by decide +kernel
theorem dL_law_172 : decode cL_law 172 = .ok (.i2d, 1) := by decide +kernel
theorem dL_law_173 : decode cL_law 173 = .ok (.ldc2_w 75, 3) := by decide +kernel
theorem dL_law_176 : decode cL_law 176 = .ok (.dmul, 1) := by decide +kernel
theorem dL_law_177 : decode cL_law 177 = .ok (.aload_n 0, 1) := by decide +kernel
theorem dL_law_178 : decode cL_law 178 = .ok (.iload 5, 2) := by decide +kernel
theorem dL_law_180 : decode cL_law 180 = .ok (.iconst 4, 1) := by decide +kernel
theorem dL_law_181 : decode cL_law 181 = .ok (.iadd, 1) := by decide +kernel
theorem dL_law_182 : decode cL_law 182 = .ok (.iaload, 1) := by decide +kernel
theorem dL_law_183 : decode cL_law 183 = .ok (.invokestatic 77, 3) := by decide +kernel
theorem dL_law_186 : decode cL_law 186 = .ok (.istore 6, 2) := by decide +kernel
theorem dL_law_188 : decode cL_law 188 = .ok (.aload_n 2, 1) := by decide +kernel
theorem dL_law_189 : decode cL_law 189 = .ok (.aload_n 0, 1) := by decide +kernel
theorem dL_law_190 : decode cL_law 190 = .ok (.iload 5, 2) := by decide +kernel
theorem dL_law_192 : decode cL_law 192 = .ok (.iconst 1, 1) := by decide +kernel
theorem dL_law_193 : decode cL_law 193 = .ok (.iadd, 1) := by decide +kernel
theorem dL_law_194 : decode cL_law 194 = .ok (.iaload, 1) := by decide +kernel
theorem dL_law_195 : decode cL_law 195 = .ok (.aload_n 0, 1) := by decide +kernel
theorem dL_law_196 : decode cL_law 196 = .ok (.iload 5, 2) := by decide +kernel
theorem dL_law_198 : decode cL_law 198 = .ok (.iconst 2, 1) := by decide +kernel
theorem dL_law_199 : decode cL_law 199 = .ok (.iadd, 1) := by decide +kernel
theorem dL_law_200 : decode cL_law 200 = .ok (.iaload, 1) := by decide +kernel
theorem dL_law_201 : decode cL_law 201 = .ok (.i2d, 1) := by decide +kernel
theorem dL_law_202 : decode cL_law 202 = .ok (.ldc2_w 75, 3) := by decide +kernel
theorem dL_law_205 : decode cL_law 205 = .ok (.dmul, 1) := by decide +kernel
theorem dL_law_206 : decode cL_law 206 = .ok (.aload_n 0, 1) := by decide +kernel
theorem dL_law_207 : decode cL_law 207 = .ok (.iload 5, 2) := by decide +kernel
theorem dL_law_209 : decode cL_law 209 = .ok (.iconst 3, 1) := by decide +kernel
theorem dL_law_210 : decode cL_law 210 = .ok (.iadd, 1) := by decide +kernel
theorem dL_law_211 : decode cL_law 211 = .ok (.iaload, 1) := by decide +kernel
theorem dL_law_212 : decode cL_law 212 = .ok (.i2d, 1) := by decide +kernel
theorem dL_law_213 : decode cL_law 213 = .ok (.ldc2_w 75, 3) := by decide +kernel
theorem dL_law_216 : decode cL_law 216 = .ok (.dmul, 1) := by decide +kernel
theorem dL_law_217 : decode cL_law 217 = .ok (.aload_n 0, 1) := by decide +kernel
theorem dL_law_218 : decode cL_law 218 = .ok (.iload 5, 2) := by decide +kernel
theorem dL_law_220 : decode cL_law 220 = .ok (.iconst 4, 1) := by decide +kernel
theorem dL_law_221 : decode cL_law 221 = .ok (.iadd, 1) := by decide +kernel
theorem dL_law_222 : decode cL_law 222 = .ok (.iaload, 1) := by decide +kernel
theorem dL_law_223 : decode cL_law 223 = .ok (.invokevirtual 80, 3) := by decide +kernel
theorem dL_law_226 : decode cL_law 226 = .ok (.aload_n 2, 1) := by decide +kernel
theorem dL_law_227 : decode cL_law 227 = .ok (.invokevirtual 81, 3) := by decide +kernel
theorem dL_law_230 : decode cL_law 230 = .ok (.iload 6, 2) := by decide +kernel
theorem dL_law_232 : decode cL_law 232 = .ok (.if_icmp .eq 5, 3) := by decide +kernel
theorem dL_law_235 : decode cL_law 235 = .ok (.iconst 0, 1) := by decide +kernel
theorem dL_law_236 : decode cL_law 236 = .ok (.ireturn, 1) := by decide +kernel
theorem dL_law_237 : decode cL_law 237 = .ok (.goto 940, 3) := by decide +kernel
theorem dL_law_240 : decode cL_law 240 = .ok (.aload_n 1, 1) := by decide +kernel
theorem dL_law_241 : decode cL_law 241 = .ok (.aload_n 0, 1) := by decide +kernel
theorem dL_law_242 : decode cL_law 242 = .ok (.iload 5, 2) := by decide +kernel
theorem dL_law_244 : decode cL_law 244 = .ok (.iconst 1, 1) := by decide +kernel
theorem dL_law_245 : decode cL_law 245 = .ok (.iadd, 1) := by decide +kernel
theorem dL_law_246 : decode cL_law 246 = .ok (.iaload, 1) := by decide +kernel
theorem dL_law_247 : decode cL_law 247 = .ok (.aload_n 0, 1) := by decide +kernel
theorem dL_law_248 : decode cL_law 248 = .ok (.iload 5, 2) := by decide +kernel
theorem dL_law_250 : decode cL_law 250 = .ok (.iconst 2, 1) := by decide +kernel
theorem dL_law_251 : decode cL_law 251 = .ok (.iadd, 1) := by decide +kernel
theorem dL_law_252 : decode cL_law 252 = .ok (.iaload, 1) := by decide +kernel
theorem dL_law_253 : decode cL_law 253 = .ok (.i2d, 1) := by decide +kernel
theorem dL_law_254 : decode cL_law 254 = .ok (.ldc2_w 75, 3) := by decide +kernel
theorem dL_law_257 : decode cL_law 257 = .ok (.dmul, 1) := by decide +kernel
theorem dL_law_258 : decode cL_law 258 = .ok (.aload_n 0, 1) := by decide +kernel
theorem dL_law_259 : decode cL_law 259 = .ok (.iload 5, 2) := by decide +kernel
theorem dL_law_261 : decode cL_law 261 = .ok (.iconst 3, 1) := by decide +kernel
theorem dL_law_262 : decode cL_law 262 = .ok (.iadd, 1) := by decide +kernel
theorem dL_law_263 : decode cL_law 263 = .ok (.iaload, 1) := by decide +kernel
theorem dL_law_264 : decode cL_law 264 = .ok (.i2d, 1) := by decide +kernel
theorem dL_law_265 : decode cL_law 265 = .ok (.ldc2_w 75, 3) := by decide +kernel
theorem dL_law_268 : decode cL_law 268 = .ok (.dmul, 1) := by decide +kernel
theorem dL_law_269 : decode cL_law 269 = .ok (.invokestatic 85, 3) := by decide +kernel
theorem dL_law_272 : decode cL_law 272 = .ok (.istore 6, 2) := by decide +kernel
theorem dL_law_274 : decode cL_law 274 = .ok (.aload_n 2, 1) := by decide +kernel
theorem dL_law_275 : decode cL_law 275 = .ok (.aload_n 0, 1) := by decide +kernel
theorem dL_law_276 : decode cL_law 276 = .ok (.iload 5, 2) := by decide +kernel
theorem dL_law_278 : decode cL_law 278 = .ok (.iconst 1, 1) := by decide +kernel
theorem dL_law_279 : decode cL_law 279 = .ok (.iadd, 1) := by decide +kernel
theorem dL_law_280 : decode cL_law 280 = .ok (.iaload, 1) := by decide +kernel
theorem dL_law_281 : decode cL_law 281 = .ok (.aload_n 0, 1) := by decide +kernel
theorem dL_law_282 : decode cL_law 282 = .ok (.iload 5, 2) := by decide +kernel
theorem dL_law_284 : decode cL_law 284 = .ok (.iconst 2, 1) := by decide +kernel
theorem dL_law_285 : decode cL_law 285 = .ok (.iadd, 1) := by decide +kernel
theorem dL_law_286 : decode cL_law 286 = .ok (.iaload, 1) := by decide +kernel
theorem dL_law_287 : decode cL_law 287 = .ok (.i2d, 1) := by decide +kernel
theorem dL_law_288 : decode cL_law 288 = .ok (.ldc2_w 75, 3) := by decide +kernel
theorem dL_law_291 : decode cL_law 291 = .ok (.dmul, 1) := by decide +kernel
theorem dL_law_292 : decode cL_law 292 = .ok (.aload_n 0, 1) := by decide +kernel
theorem dL_law_293 : decode cL_law 293 = .ok (.iload 5, 2) := by decide +kernel
theorem dL_law_295 : decode cL_law 295 = .ok (.iconst 3, 1) := by decide +kernel
theorem dL_law_296 : decode cL_law 296 = .ok (.iadd, 1) := by decide +kernel
theorem dL_law_297 : decode cL_law 297 = .ok (.iaload, 1) := by decide +kernel
theorem dL_law_298 : decode cL_law 298 = .ok (.i2d, 1) := by decide +kernel
theorem dL_law_299 : decode cL_law 299 = .ok (.ldc2_w 75, 3) := by decide +kernel
theorem dL_law_302 : decode cL_law 302 = .ok (.dmul, 1) := by decide +kernel
theorem dL_law_303 : decode cL_law 303 = .ok (.invokevirtual 88, 3) := by decide +kernel
theorem dL_law_306 : decode cL_law 306 = .ok (.aload_n 2, 1) := by decide +kernel
theorem dL_law_307 : decode cL_law 307 = .ok (.invokevirtual 81, 3) := by decide +kernel
theorem dL_law_310 : decode cL_law 310 = .ok (.iload 6, 2) := by decide +kernel
theorem dL_law_312 : decode cL_law 312 = .ok (.if_icmp .eq 5, 3) := by decide +kernel
theorem dL_law_315 : decode cL_law 315 = .ok (.iconst 0, 1) := by decide +kernel
theorem dL_law_316 : decode cL_law 316 = .ok (.ireturn, 1) := by decide +kernel
theorem dL_law_317 : decode cL_law 317 = .ok (.goto 860, 3) := by decide +kernel
theorem dL_law_320 : decode cL_law 320 = .ok (.aload_n 1, 1) := by decide +kernel
theorem dL_law_321 : decode cL_law 321 = .ok (.aload_n 0, 1) := by decide +kernel
theorem dL_law_322 : decode cL_law 322 = .ok (.iload 5, 2) := by decide +kernel
theorem dL_law_324 : decode cL_law 324 = .ok (.iconst 1, 1) := by decide +kernel
theorem dL_law_325 : decode cL_law 325 = .ok (.iadd, 1) := by decide +kernel
theorem dL_law_326 : decode cL_law 326 = .ok (.iaload, 1) := by decide +kernel
theorem dL_law_327 : decode cL_law 327 = .ok (.i2d, 1) := by decide +kernel
theorem dL_law_328 : decode cL_law 328 = .ok (.ldc2_w 75, 3) := by decide +kernel
theorem dL_law_331 : decode cL_law 331 = .ok (.dmul, 1) := by decide +kernel
theorem dL_law_332 : decode cL_law 332 = .ok (.aload_n 0, 1) := by decide +kernel
theorem dL_law_333 : decode cL_law 333 = .ok (.iload 5, 2) := by decide +kernel
theorem dL_law_335 : decode cL_law 335 = .ok (.iconst 2, 1) := by decide +kernel
theorem dL_law_336 : decode cL_law 336 = .ok (.iadd, 1) := by decide +kernel
theorem dL_law_337 : decode cL_law 337 = .ok (.iaload, 1) := by decide +kernel
theorem dL_law_338 : decode cL_law 338 = .ok (.i2d, 1) := by decide +kernel
theorem dL_law_339 : decode cL_law 339 = .ok (.ldc2_w 75, 3) := by decide +kernel
theorem dL_law_342 : decode cL_law 342 = .ok (.dmul, 1) := by decide +kernel
theorem dL_law_343 : decode cL_law 343 = .ok (.aload_n 0, 1) := by decide +kernel
theorem dL_law_344 : decode cL_law 344 = .ok (.iload 5, 2) := by decide +kernel
theorem dL_law_346 : decode cL_law 346 = .ok (.iconst 3, 1) := by decide +kernel
theorem dL_law_347 : decode cL_law 347 = .ok (.iadd, 1) := by decide +kernel
theorem dL_law_348 : decode cL_law 348 = .ok (.iaload, 1) := by decide +kernel
theorem dL_law_349 : decode cL_law 349 = .ok (.i2d, 1) := by decide +kernel
theorem dL_law_350 : decode cL_law 350 = .ok (.ldc2_w 75, 3) := by decide +kernel
theorem dL_law_353 : decode cL_law 353 = .ok (.dmul, 1) := by decide +kernel
theorem dL_law_354 : decode cL_law 354 = .ok (.invokestatic 89, 3) := by decide +kernel
theorem dL_law_357 : decode cL_law 357 = .ok (.istore 6, 2) := by decide +kernel
theorem dL_law_359 : decode cL_law 359 = .ok (.aload_n 2, 1) := by decide +kernel
theorem dL_law_360 : decode cL_law 360 = .ok (.aload_n 0, 1) := by decide +kernel
theorem dL_law_361 : decode cL_law 361 = .ok (.iload 5, 2) := by decide +kernel
theorem dL_law_363 : decode cL_law 363 = .ok (.iconst 1, 1) := by decide +kernel
theorem dL_law_364 : decode cL_law 364 = .ok (.iadd, 1) := by decide +kernel
theorem dL_law_365 : decode cL_law 365 = .ok (.iaload, 1) := by decide +kernel
theorem dL_law_366 : decode cL_law 366 = .ok (.i2d, 1) := by decide +kernel
theorem dL_law_367 : decode cL_law 367 = .ok (.ldc2_w 75, 3) := by decide +kernel
theorem dL_law_370 : decode cL_law 370 = .ok (.dmul, 1) := by decide +kernel
theorem dL_law_371 : decode cL_law 371 = .ok (.aload_n 0, 1) := by decide +kernel
theorem dL_law_372 : decode cL_law 372 = .ok (.iload 5, 2) := by decide +kernel
theorem dL_law_374 : decode cL_law 374 = .ok (.iconst 2, 1) := by decide +kernel
theorem dL_law_375 : decode cL_law 375 = .ok (.iadd, 1) := by decide +kernel
theorem dL_law_376 : decode cL_law 376 = .ok (.iaload, 1) := by decide +kernel
theorem dL_law_377 : decode cL_law 377 = .ok (.i2d, 1) := by decide +kernel
theorem dL_law_378 : decode cL_law 378 = .ok (.ldc2_w 75, 3) := by decide +kernel
theorem dL_law_381 : decode cL_law 381 = .ok (.dmul, 1) := by decide +kernel
theorem dL_law_382 : decode cL_law 382 = .ok (.aload_n 0, 1) := by decide +kernel
theorem dL_law_383 : decode cL_law 383 = .ok (.iload 5, 2) := by decide +kernel
theorem dL_law_385 : decode cL_law 385 = .ok (.iconst 3, 1) := by decide +kernel
theorem dL_law_386 : decode cL_law 386 = .ok (.iadd, 1) := by decide +kernel
theorem dL_law_387 : decode cL_law 387 = .ok (.iaload, 1) := by decide +kernel
theorem dL_law_388 : decode cL_law 388 = .ok (.i2d, 1) := by decide +kernel
theorem dL_law_389 : decode cL_law 389 = .ok (.ldc2_w 75, 3) := by decide +kernel
theorem dL_law_392 : decode cL_law 392 = .ok (.dmul, 1) := by decide +kernel
theorem dL_law_393 : decode cL_law 393 = .ok (.invokevirtual 92, 3) := by decide +kernel
theorem dL_law_396 : decode cL_law 396 = .ok (.aload_n 2, 1) := by decide +kernel
theorem dL_law_397 : decode cL_law 397 = .ok (.invokevirtual 81, 3) := by decide +kernel
theorem dL_law_400 : decode cL_law 400 = .ok (.iload 6, 2) := by decide +kernel
theorem dL_law_402 : decode cL_law 402 = .ok (.if_icmp .eq 5, 3) := by decide +kernel
theorem dL_law_405 : decode cL_law 405 = .ok (.iconst 0, 1) := by decide +kernel
theorem dL_law_406 : decode cL_law 406 = .ok (.ireturn, 1) := by decide +kernel
theorem dL_law_407 : decode cL_law 407 = .ok (.goto 770, 3) := by decide +kernel
theorem dL_law_410 : decode cL_law 410 = .ok (.aload_n 1, 1) := by decide +kernel
theorem dL_law_411 : decode cL_law 411 = .ok (.aload_n 0, 1) := by decide +kernel
theorem dL_law_412 : decode cL_law 412 = .ok (.iload 5, 2) := by decide +kernel
theorem dL_law_414 : decode cL_law 414 = .ok (.iconst 1, 1) := by decide +kernel
theorem dL_law_415 : decode cL_law 415 = .ok (.iadd, 1) := by decide +kernel
theorem dL_law_416 : decode cL_law 416 = .ok (.iaload, 1) := by decide +kernel
theorem dL_law_417 : decode cL_law 417 = .ok (.i2d, 1) := by decide +kernel
theorem dL_law_418 : decode cL_law 418 = .ok (.ldc2_w 75, 3) := by decide +kernel
theorem dL_law_421 : decode cL_law 421 = .ok (.dmul, 1) := by decide +kernel
theorem dL_law_422 : decode cL_law 422 = .ok (.invokestatic 93, 3) := by decide +kernel
theorem dL_law_425 : decode cL_law 425 = .ok (.istore 6, 2) := by decide +kernel
theorem dL_law_427 : decode cL_law 427 = .ok (.aload_n 2, 1) := by decide +kernel
theorem dL_law_428 : decode cL_law 428 = .ok (.aload_n 0, 1) := by decide +kernel
theorem dL_law_429 : decode cL_law 429 = .ok (.iload 5, 2) := by decide +kernel
theorem dL_law_431 : decode cL_law 431 = .ok (.iconst 1, 1) := by decide +kernel
theorem dL_law_432 : decode cL_law 432 = .ok (.iadd, 1) := by decide +kernel
theorem dL_law_433 : decode cL_law 433 = .ok (.iaload, 1) := by decide +kernel
theorem dL_law_434 : decode cL_law 434 = .ok (.i2d, 1) := by decide +kernel
theorem dL_law_435 : decode cL_law 435 = .ok (.ldc2_w 75, 3) := by decide +kernel
theorem dL_law_438 : decode cL_law 438 = .ok (.dmul, 1) := by decide +kernel
theorem dL_law_439 : decode cL_law 439 = .ok (.invokevirtual 96, 3) := by decide +kernel
theorem dL_law_442 : decode cL_law 442 = .ok (.aload_n 2, 1) := by decide +kernel
theorem dL_law_443 : decode cL_law 443 = .ok (.invokevirtual 81, 3) := by decide +kernel
theorem dL_law_446 : decode cL_law 446 = .ok (.iload 6, 2) := by decide +kernel
theorem dL_law_448 : decode cL_law 448 = .ok (.if_icmp .eq 5, 3) := by decide +kernel
theorem dL_law_451 : decode cL_law 451 = .ok (.iconst 0, 1) := by decide +kernel
theorem dL_law_452 : decode cL_law 452 = .ok (.ireturn, 1) := by decide +kernel
theorem dL_law_453 : decode cL_law 453 = .ok (.goto 724, 3) := by decide +kernel
theorem dL_law_456 : decode cL_law 456 = .ok (.aload_n 1, 1) := by decide +kernel
theorem dL_law_457 : decode cL_law 457 = .ok (.aload_n 0, 1) := by decide +kernel
theorem dL_law_458 : decode cL_law 458 = .ok (.iload 5, 2) := by decide +kernel
theorem dL_law_460 : decode cL_law 460 = .ok (.iconst 1, 1) := by decide +kernel
theorem dL_law_461 : decode cL_law 461 = .ok (.iadd, 1) := by decide +kernel
theorem dL_law_462 : decode cL_law 462 = .ok (.iaload, 1) := by decide +kernel
theorem dL_law_463 : decode cL_law 463 = .ok (.aload_n 0, 1) := by decide +kernel
theorem dL_law_464 : decode cL_law 464 = .ok (.iload 5, 2) := by decide +kernel
theorem dL_law_466 : decode cL_law 466 = .ok (.iconst 2, 1) := by decide +kernel
theorem dL_law_467 : decode cL_law 467 = .ok (.iadd, 1) := by decide +kernel
theorem dL_law_468 : decode cL_law 468 = .ok (.iaload, 1) := by decide +kernel
theorem dL_law_469 : decode cL_law 469 = .ok (.aload_n 0, 1) := by decide +kernel
theorem dL_law_470 : decode cL_law 470 = .ok (.iload 5, 2) := by decide +kernel
theorem dL_law_472 : decode cL_law 472 = .ok (.iconst 3, 1) := by decide +kernel
theorem dL_law_473 : decode cL_law 473 = .ok (.iadd, 1) := by decide +kernel
theorem dL_law_474 : decode cL_law 474 = .ok (.iaload, 1) := by decide +kernel
theorem dL_law_475 : decode cL_law 475 = .ok (.i2d, 1) := by decide +kernel
theorem dL_law_476 : decode cL_law 476 = .ok (.ldc2_w 75, 3) := by decide +kernel
theorem dL_law_479 : decode cL_law 479 = .ok (.dmul, 1) := by decide +kernel
theorem dL_law_480 : decode cL_law 480 = .ok (.invokestatic 97, 3) := by decide +kernel
theorem dL_law_483 : decode cL_law 483 = .ok (.istore 6, 2) := by decide +kernel
theorem dL_law_485 : decode cL_law 485 = .ok (.aload_n 2, 1) := by decide +kernel
theorem dL_law_486 : decode cL_law 486 = .ok (.aload_n 0, 1) := by decide +kernel
theorem dL_law_487 : decode cL_law 487 = .ok (.iload 5, 2) := by decide +kernel
theorem dL_law_489 : decode cL_law 489 = .ok (.iconst 1, 1) := by decide +kernel
theorem dL_law_490 : decode cL_law 490 = .ok (.iadd, 1) := by decide +kernel
theorem dL_law_491 : decode cL_law 491 = .ok (.iaload, 1) := by decide +kernel
theorem dL_law_492 : decode cL_law 492 = .ok (.aload_n 0, 1) := by decide +kernel
theorem dL_law_493 : decode cL_law 493 = .ok (.iload 5, 2) := by decide +kernel
theorem dL_law_495 : decode cL_law 495 = .ok (.iconst 2, 1) := by decide +kernel
theorem dL_law_496 : decode cL_law 496 = .ok (.iadd, 1) := by decide +kernel
theorem dL_law_497 : decode cL_law 497 = .ok (.iaload, 1) := by decide +kernel
theorem dL_law_498 : decode cL_law 498 = .ok (.aload_n 0, 1) := by decide +kernel
theorem dL_law_499 : decode cL_law 499 = .ok (.iload 5, 2) := by decide +kernel
theorem dL_law_501 : decode cL_law 501 = .ok (.iconst 3, 1) := by decide +kernel
theorem dL_law_502 : decode cL_law 502 = .ok (.iadd, 1) := by decide +kernel
theorem dL_law_503 : decode cL_law 503 = .ok (.iaload, 1) := by decide +kernel
theorem dL_law_504 : decode cL_law 504 = .ok (.i2d, 1) := by decide +kernel
theorem dL_law_505 : decode cL_law 505 = .ok (.ldc2_w 75, 3) := by decide +kernel
theorem dL_law_508 : decode cL_law 508 = .ok (.dmul, 1) := by decide +kernel
theorem dL_law_509 : decode cL_law 509 = .ok (.invokevirtual 100, 3) := by decide +kernel
theorem dL_law_512 : decode cL_law 512 = .ok (.aload_n 2, 1) := by decide +kernel
theorem dL_law_513 : decode cL_law 513 = .ok (.invokevirtual 81, 3) := by decide +kernel
theorem dL_law_516 : decode cL_law 516 = .ok (.iload 6, 2) := by decide +kernel
theorem dL_law_518 : decode cL_law 518 = .ok (.if_icmp .eq 5, 3) := by decide +kernel
theorem dL_law_521 : decode cL_law 521 = .ok (.iconst 0, 1) := by decide +kernel
theorem dL_law_522 : decode cL_law 522 = .ok (.ireturn, 1) := by decide +kernel
theorem dL_law_523 : decode cL_law 523 = .ok (.goto 654, 3) := by decide +kernel
theorem dL_law_526 : decode cL_law 526 = .ok (.aload_n 1, 1) := by decide +kernel
theorem dL_law_527 : decode cL_law 527 = .ok (.aload_n 0, 1) := by decide +kernel
theorem dL_law_528 : decode cL_law 528 = .ok (.iload 5, 2) := by decide +kernel
theorem dL_law_530 : decode cL_law 530 = .ok (.iconst 1, 1) := by decide +kernel
theorem dL_law_531 : decode cL_law 531 = .ok (.iadd, 1) := by decide +kernel
theorem dL_law_532 : decode cL_law 532 = .ok (.iaload, 1) := by decide +kernel
theorem dL_law_533 : decode cL_law 533 = .ok (.invokevirtual 101, 3) := by decide +kernel
theorem dL_law_536 : decode cL_law 536 = .ok (.aload_n 2, 1) := by decide +kernel
theorem dL_law_537 : decode cL_law 537 = .ok (.aload_n 0, 1) := by decide +kernel
theorem dL_law_538 : decode cL_law 538 = .ok (.iload 5, 2) := by decide +kernel
theorem dL_law_540 : decode cL_law 540 = .ok (.iconst 1, 1) := by decide +kernel
theorem dL_law_541 : decode cL_law 541 = .ok (.iadd, 1) := by decide +kernel
theorem dL_law_542 : decode cL_law 542 = .ok (.iaload, 1) := by decide +kernel
theorem dL_law_543 : decode cL_law 543 = .ok (.invokevirtual 105, 3) := by decide +kernel
theorem dL_law_546 : decode cL_law 546 = .ok (.if_icmp .eq 631, 3) := by decide +kernel
theorem dL_law_549 : decode cL_law 549 = .ok (.iconst 0, 1) := by decide +kernel
theorem dL_law_550 : decode cL_law 550 = .ok (.ireturn, 1) := by decide +kernel
theorem dL_law_551 : decode cL_law 551 = .ok (.aload_n 1, 1) := by decide +kernel
theorem dL_law_552 : decode cL_law 552 = .ok (.invokevirtual 106, 3) := by decide +kernel
theorem dL_law_555 : decode cL_law 555 = .ok (.aload_n 2, 1) := by decide +kernel
theorem dL_law_556 : decode cL_law 556 = .ok (.invokevirtual 109, 3) := by decide +kernel
theorem dL_law_559 : decode cL_law 559 = .ok (.if_icmp .eq 618, 3) := by decide +kernel
theorem dL_law_562 : decode cL_law 562 = .ok (.iconst 0, 1) := by decide +kernel
theorem dL_law_563 : decode cL_law 563 = .ok (.ireturn, 1) := by decide +kernel
theorem dL_law_564 : decode cL_law 564 = .ok (.aload_n 1, 1) := by decide +kernel
theorem dL_law_565 : decode cL_law 565 = .ok (.aload_n 0, 1) := by decide +kernel
theorem dL_law_566 : decode cL_law 566 = .ok (.iload 5, 2) := by decide +kernel
theorem dL_law_568 : decode cL_law 568 = .ok (.iconst 1, 1) := by decide +kernel
theorem dL_law_569 : decode cL_law 569 = .ok (.iadd, 1) := by decide +kernel
theorem dL_law_570 : decode cL_law 570 = .ok (.iaload, 1) := by decide +kernel
theorem dL_law_571 : decode cL_law 571 = .ok (.aload_n 3, 1) := by decide +kernel
theorem dL_law_572 : decode cL_law 572 = .ok (.invokestatic 110, 3) := by decide +kernel
theorem dL_law_575 : decode cL_law 575 = .ok (.istore 6, 2) := by decide +kernel
theorem dL_law_577 : decode cL_law 577 = .ok (.aload_n 2, 1) := by decide +kernel
theorem dL_law_578 : decode cL_law 578 = .ok (.aload_n 0, 1) := by decide +kernel
theorem dL_law_579 : decode cL_law 579 = .ok (.iload 5, 2) := by decide +kernel
theorem dL_law_581 : decode cL_law 581 = .ok (.iconst 1, 1) := by decide +kernel
theorem dL_law_582 : decode cL_law 582 = .ok (.iadd, 1) := by decide +kernel
theorem dL_law_583 : decode cL_law 583 = .ok (.iaload, 1) := by decide +kernel
theorem dL_law_584 : decode cL_law 584 = .ok (.invokevirtual 113, 3) := by decide +kernel
theorem dL_law_587 : decode cL_law 587 = .ok (.istore 7, 2) := by decide +kernel
theorem dL_law_589 : decode cL_law 589 = .ok (.aload_n 2, 1) := by decide +kernel
theorem dL_law_590 : decode cL_law 590 = .ok (.invokevirtual 81, 3) := by decide +kernel
theorem dL_law_593 : decode cL_law 593 = .ok (.iload 6, 2) := by decide +kernel
theorem dL_law_595 : decode cL_law 595 = .ok (.if_icmp .eq 5, 3) := by decide +kernel
theorem dL_law_598 : decode cL_law 598 = .ok (.iconst 0, 1) := by decide +kernel
theorem dL_law_599 : decode cL_law 599 = .ok (.ireturn, 1) := by decide +kernel
theorem dL_law_600 : decode cL_law 600 = .ok (.iload 6, 2) := by decide +kernel
theorem dL_law_602 : decode cL_law 602 = .ok (.ifCond .ne 15, 3) := by decide +kernel
theorem dL_law_605 : decode cL_law 605 = .ok (.aload_n 3, 1) := by decide +kernel
theorem dL_law_606 : decode cL_law 606 = .ok (.iconst 0, 1) := by decide +kernel
theorem dL_law_607 : decode cL_law 607 = .ok (.laload, 1) := by decide +kernel
theorem dL_law_608 : decode cL_law 608 = .ok (.iload 7, 2) := by decide +kernel
theorem dL_law_610 : decode cL_law 610 = .ok (.i2l, 1) := by decide +kernel
theorem dL_law_611 : decode cL_law 611 = .ok (.lcmp, 1) := by decide +kernel
theorem dL_law_612 : decode cL_law 612 = .ok (.ifCond .eq 5, 3) := by decide +kernel
theorem dL_law_615 : decode cL_law 615 = .ok (.iconst 0, 1) := by decide +kernel
theorem dL_law_616 : decode cL_law 616 = .ok (.ireturn, 1) := by decide +kernel
theorem dL_law_617 : decode cL_law 617 = .ok (.goto 560, 3) := by decide +kernel
theorem dL_law_620 : decode cL_law 620 = .ok (.aload_n 1, 1) := by decide +kernel
theorem dL_law_621 : decode cL_law 621 = .ok (.aload_n 0, 1) := by decide +kernel
theorem dL_law_622 : decode cL_law 622 = .ok (.iload 5, 2) := by decide +kernel
theorem dL_law_624 : decode cL_law 624 = .ok (.iconst 1, 1) := by decide +kernel
theorem dL_law_625 : decode cL_law 625 = .ok (.iadd, 1) := by decide +kernel
theorem dL_law_626 : decode cL_law 626 = .ok (.iaload, 1) := by decide +kernel
theorem dL_law_627 : decode cL_law 627 = .ok (.aload_n 0, 1) := by decide +kernel
theorem dL_law_628 : decode cL_law 628 = .ok (.iload 5, 2) := by decide +kernel
theorem dL_law_630 : decode cL_law 630 = .ok (.iconst 2, 1) := by decide +kernel
theorem dL_law_631 : decode cL_law 631 = .ok (.iadd, 1) := by decide +kernel
theorem dL_law_632 : decode cL_law 632 = .ok (.iaload, 1) := by decide +kernel
theorem dL_law_633 : decode cL_law 633 = .ok (.i2d, 1) := by decide +kernel
theorem dL_law_634 : decode cL_law 634 = .ok (.ldc2_w 75, 3) := by decide +kernel
theorem dL_law_637 : decode cL_law 637 = .ok (.dmul, 1) := by decide +kernel
theorem dL_law_638 : decode cL_law 638 = .ok (.invokestatic 114, 3) := by decide +kernel
theorem dL_law_641 : decode cL_law 641 = .ok (.istore 6, 2) := by decide +kernel
theorem dL_law_643 : decode cL_law 643 = .ok (.aload_n 2, 1) := by decide +kernel
theorem dL_law_644 : decode cL_law 644 = .ok (.aload_n 0, 1) := by decide +kernel
theorem dL_law_645 : decode cL_law 645 = .ok (.iload 5, 2) := by decide +kernel
theorem dL_law_647 : decode cL_law 647 = .ok (.iconst 1, 1) := by decide +kernel
theorem dL_law_648 : decode cL_law 648 = .ok (.iadd, 1) := by decide +kernel
theorem dL_law_649 : decode cL_law 649 = .ok (.iaload, 1) := by decide +kernel
theorem dL_law_650 : decode cL_law 650 = .ok (.aload_n 0, 1) := by decide +kernel
theorem dL_law_651 : decode cL_law 651 = .ok (.iload 5, 2) := by decide +kernel
theorem dL_law_653 : decode cL_law 653 = .ok (.iconst 2, 1) := by decide +kernel
theorem dL_law_654 : decode cL_law 654 = .ok (.iadd, 1) := by decide +kernel
theorem dL_law_655 : decode cL_law 655 = .ok (.iaload, 1) := by decide +kernel
theorem dL_law_656 : decode cL_law 656 = .ok (.i2d, 1) := by decide +kernel
theorem dL_law_657 : decode cL_law 657 = .ok (.ldc2_w 75, 3) := by decide +kernel
theorem dL_law_660 : decode cL_law 660 = .ok (.dmul, 1) := by decide +kernel
theorem dL_law_661 : decode cL_law 661 = .ok (.invokevirtual 117, 3) := by decide +kernel
theorem dL_law_664 : decode cL_law 664 = .ok (.aload_n 2, 1) := by decide +kernel
theorem dL_law_665 : decode cL_law 665 = .ok (.invokevirtual 81, 3) := by decide +kernel
theorem dL_law_668 : decode cL_law 668 = .ok (.iload 6, 2) := by decide +kernel
theorem dL_law_670 : decode cL_law 670 = .ok (.if_icmp .eq 5, 3) := by decide +kernel
theorem dL_law_673 : decode cL_law 673 = .ok (.iconst 0, 1) := by decide +kernel
theorem dL_law_674 : decode cL_law 674 = .ok (.ireturn, 1) := by decide +kernel
theorem dL_law_675 : decode cL_law 675 = .ok (.goto 502, 3) := by decide +kernel
theorem dL_law_678 : decode cL_law 678 = .ok (.aload_n 1, 1) := by decide +kernel
theorem dL_law_679 : decode cL_law 679 = .ok (.aload_n 0, 1) := by decide +kernel
theorem dL_law_680 : decode cL_law 680 = .ok (.iload 5, 2) := by decide +kernel
theorem dL_law_682 : decode cL_law 682 = .ok (.iconst 1, 1) := by decide +kernel
theorem dL_law_683 : decode cL_law 683 = .ok (.iadd, 1) := by decide +kernel
theorem dL_law_684 : decode cL_law 684 = .ok (.iaload, 1) := by decide +kernel
theorem dL_law_685 : decode cL_law 685 = .ok (.aload_n 3, 1) := by decide +kernel
theorem dL_law_686 : decode cL_law 686 = .ok (.invokestatic 118, 3) := by decide +kernel
theorem dL_law_689 : decode cL_law 689 = .ok (.istore 6, 2) := by decide +kernel
theorem dL_law_691 : decode cL_law 691 = .ok (.aload_n 2, 1) := by decide +kernel
theorem dL_law_692 : decode cL_law 692 = .ok (.aload_n 0, 1) := by decide +kernel
theorem dL_law_693 : decode cL_law 693 = .ok (.iload 5, 2) := by decide +kernel
theorem dL_law_695 : decode cL_law 695 = .ok (.iconst 1, 1) := by decide +kernel
theorem dL_law_696 : decode cL_law 696 = .ok (.iadd, 1) := by decide +kernel
theorem dL_law_697 : decode cL_law 697 = .ok (.iaload, 1) := by decide +kernel
theorem dL_law_698 : decode cL_law 698 = .ok (.invokevirtual 120, 3) := by decide +kernel
theorem dL_law_701 : decode cL_law 701 = .ok (.istore 7, 2) := by decide +kernel
theorem dL_law_703 : decode cL_law 703 = .ok (.aload_n 2, 1) := by decide +kernel
theorem dL_law_704 : decode cL_law 704 = .ok (.invokevirtual 81, 3) := by decide +kernel
theorem dL_law_707 : decode cL_law 707 = .ok (.iload 6, 2) := by decide +kernel
theorem dL_law_709 : decode cL_law 709 = .ok (.if_icmp .eq 5, 3) := by decide +kernel
theorem dL_law_712 : decode cL_law 712 = .ok (.iconst 0, 1) := by decide +kernel
theorem dL_law_713 : decode cL_law 713 = .ok (.ireturn, 1) := by decide +kernel
theorem dL_law_714 : decode cL_law 714 = .ok (.iload 6, 2) := by decide +kernel
theorem dL_law_716 : decode cL_law 716 = .ok (.ifCond .ne 15, 3) := by decide +kernel
theorem dL_law_719 : decode cL_law 719 = .ok (.aload_n 3, 1) := by decide +kernel
theorem dL_law_720 : decode cL_law 720 = .ok (.iconst 0, 1) := by decide +kernel
theorem dL_law_721 : decode cL_law 721 = .ok (.laload, 1) := by decide +kernel
theorem dL_law_722 : decode cL_law 722 = .ok (.iload 7, 2) := by decide +kernel
theorem dL_law_724 : decode cL_law 724 = .ok (.i2l, 1) := by decide +kernel
theorem dL_law_725 : decode cL_law 725 = .ok (.lcmp, 1) := by decide +kernel
theorem dL_law_726 : decode cL_law 726 = .ok (.ifCond .eq 5, 3) := by decide +kernel
theorem dL_law_729 : decode cL_law 729 = .ok (.iconst 0, 1) := by decide +kernel
theorem dL_law_730 : decode cL_law 730 = .ok (.ireturn, 1) := by decide +kernel
theorem dL_law_731 : decode cL_law 731 = .ok (.goto 446, 3) := by decide +kernel
theorem dL_law_734 : decode cL_law 734 = .ok (.aload_n 1, 1) := by decide +kernel
theorem dL_law_735 : decode cL_law 735 = .ok (.aload_n 0, 1) := by decide +kernel
theorem dL_law_736 : decode cL_law 736 = .ok (.iload 5, 2) := by decide +kernel
theorem dL_law_738 : decode cL_law 738 = .ok (.iconst 1, 1) := by decide +kernel
theorem dL_law_739 : decode cL_law 739 = .ok (.iadd, 1) := by decide +kernel
theorem dL_law_740 : decode cL_law 740 = .ok (.iaload, 1) := by decide +kernel
theorem dL_law_741 : decode cL_law 741 = .ok (.aload_n 0, 1) := by decide +kernel
theorem dL_law_742 : decode cL_law 742 = .ok (.iload 5, 2) := by decide +kernel
theorem dL_law_744 : decode cL_law 744 = .ok (.iconst 2, 1) := by decide +kernel
theorem dL_law_745 : decode cL_law 745 = .ok (.iadd, 1) := by decide +kernel
theorem dL_law_746 : decode cL_law 746 = .ok (.iaload, 1) := by decide +kernel
theorem dL_law_747 : decode cL_law 747 = .ok (.aload 4, 2) := by decide +kernel
theorem dL_law_749 : decode cL_law 749 = .ok (.invokestatic 121, 3) := by decide +kernel
theorem dL_law_752 : decode cL_law 752 = .ok (.istore 6, 2) := by decide +kernel
theorem dL_law_754 : decode cL_law 754 = .ok (.aload_n 2, 1) := by decide +kernel
theorem dL_law_755 : decode cL_law 755 = .ok (.aload_n 0, 1) := by decide +kernel
theorem dL_law_756 : decode cL_law 756 = .ok (.iload 5, 2) := by decide +kernel
theorem dL_law_758 : decode cL_law 758 = .ok (.iconst 1, 1) := by decide +kernel
theorem dL_law_759 : decode cL_law 759 = .ok (.iadd, 1) := by decide +kernel
theorem dL_law_760 : decode cL_law 760 = .ok (.iaload, 1) := by decide +kernel
theorem dL_law_761 : decode cL_law 761 = .ok (.aload_n 0, 1) := by decide +kernel
theorem dL_law_762 : decode cL_law 762 = .ok (.iload 5, 2) := by decide +kernel
theorem dL_law_764 : decode cL_law 764 = .ok (.iconst 2, 1) := by decide +kernel
theorem dL_law_765 : decode cL_law 765 = .ok (.iadd, 1) := by decide +kernel
theorem dL_law_766 : decode cL_law 766 = .ok (.iaload, 1) := by decide +kernel
theorem dL_law_767 : decode cL_law 767 = .ok (.invokevirtual 124, 3) := by decide +kernel
theorem dL_law_770 : decode cL_law 770 = .ok (.dstore 7, 2) := by decide +kernel
theorem dL_law_772 : decode cL_law 772 = .ok (.aload_n 2, 1) := by decide +kernel
theorem dL_law_773 : decode cL_law 773 = .ok (.invokevirtual 81, 3) := by decide +kernel
theorem dL_law_776 : decode cL_law 776 = .ok (.iload 6, 2) := by decide +kernel
theorem dL_law_778 : decode cL_law 778 = .ok (.if_icmp .eq 5, 3) := by decide +kernel
theorem dL_law_781 : decode cL_law 781 = .ok (.iconst 0, 1) := by decide +kernel
theorem dL_law_782 : decode cL_law 782 = .ok (.ireturn, 1) := by decide +kernel
theorem dL_law_783 : decode cL_law 783 = .ok (.iload 6, 2) := by decide +kernel
theorem dL_law_785 : decode cL_law 785 = .ok (.ifCond .ne 35, 3) := by decide +kernel
theorem dL_law_788 : decode cL_law 788 = .ok (.aload 4, 2) := by decide +kernel
theorem dL_law_790 : decode cL_law 790 = .ok (.iconst 0, 1) := by decide +kernel
theorem dL_law_791 : decode cL_law 791 = .ok (.daload, 1) := by decide +kernel
theorem dL_law_792 : decode cL_law 792 = .ok (.dload 7, 2) := by decide +kernel
theorem dL_law_794 : decode cL_law 794 = .ok (.dcmp .l, 1) := by decide +kernel
theorem dL_law_795 : decode cL_law 795 = .ok (.ifCond .eq 25, 3) := by decide +kernel
theorem dL_law_798 : decode cL_law 798 = .ok (.aload 4, 2) := by decide +kernel
theorem dL_law_800 : decode cL_law 800 = .ok (.iconst 0, 1) := by decide +kernel
theorem dL_law_801 : decode cL_law 801 = .ok (.daload, 1) := by decide +kernel
theorem dL_law_802 : decode cL_law 802 = .ok (.aload 4, 2) := by decide +kernel
theorem dL_law_804 : decode cL_law 804 = .ok (.iconst 0, 1) := by decide +kernel
theorem dL_law_805 : decode cL_law 805 = .ok (.daload, 1) := by decide +kernel
theorem dL_law_806 : decode cL_law 806 = .ok (.dcmp .l, 1) := by decide +kernel
theorem dL_law_807 : decode cL_law 807 = .ok (.ifCond .eq 11, 3) := by decide +kernel
theorem dL_law_810 : decode cL_law 810 = .ok (.dload 7, 2) := by decide +kernel
theorem dL_law_812 : decode cL_law 812 = .ok (.dload 7, 2) := by decide +kernel
theorem dL_law_814 : decode cL_law 814 = .ok (.dcmp .l, 1) := by decide +kernel
theorem dL_law_815 : decode cL_law 815 = .ok (.ifCond .ne 5, 3) := by decide +kernel
theorem dL_law_818 : decode cL_law 818 = .ok (.iconst 0, 1) := by decide +kernel
theorem dL_law_819 : decode cL_law 819 = .ok (.ireturn, 1) := by decide +kernel
theorem dL_law_820 : decode cL_law 820 = .ok (.goto 357, 3) := by decide +kernel
theorem dL_law_823 : decode cL_law 823 = .ok (.aload_n 1, 1) := by decide +kernel
theorem dL_law_824 : decode cL_law 824 = .ok (.aload_n 0, 1) := by decide +kernel
theorem dL_law_825 : decode cL_law 825 = .ok (.iload 5, 2) := by decide +kernel
theorem dL_law_827 : decode cL_law 827 = .ok (.iconst 1, 1) := by decide +kernel
theorem dL_law_828 : decode cL_law 828 = .ok (.iadd, 1) := by decide +kernel
theorem dL_law_829 : decode cL_law 829 = .ok (.iaload, 1) := by decide +kernel
theorem dL_law_830 : decode cL_law 830 = .ok (.aload 4, 2) := by decide +kernel
theorem dL_law_832 : decode cL_law 832 = .ok (.invokestatic 125, 3) := by decide +kernel
theorem dL_law_835 : decode cL_law 835 = .ok (.istore 6, 2) := by decide +kernel
theorem dL_law_837 : decode cL_law 837 = .ok (.aload_n 2, 1) := by decide +kernel
theorem dL_law_838 : decode cL_law 838 = .ok (.aload_n 0, 1) := by decide +kernel
theorem dL_law_839 : decode cL_law 839 = .ok (.iload 5, 2) := by decide +kernel
theorem dL_law_841 : decode cL_law 841 = .ok (.iconst 1, 1) := by decide +kernel
theorem dL_law_842 : decode cL_law 842 = .ok (.iadd, 1) := by decide +kernel
theorem dL_law_843 : decode cL_law 843 = .ok (.iaload, 1) := by decide +kernel
theorem dL_law_844 : decode cL_law 844 = .ok (.invokevirtual 128, 3) := by decide +kernel
theorem dL_law_847 : decode cL_law 847 = .ok (.dstore 7, 2) := by decide +kernel
theorem dL_law_849 : decode cL_law 849 = .ok (.aload_n 2, 1) := by decide +kernel
theorem dL_law_850 : decode cL_law 850 = .ok (.invokevirtual 81, 3) := by decide +kernel
theorem dL_law_853 : decode cL_law 853 = .ok (.iload 6, 2) := by decide +kernel
theorem dL_law_855 : decode cL_law 855 = .ok (.if_icmp .eq 5, 3) := by decide +kernel
theorem dL_law_858 : decode cL_law 858 = .ok (.iconst 0, 1) := by decide +kernel
theorem dL_law_859 : decode cL_law 859 = .ok (.ireturn, 1) := by decide +kernel
theorem dL_law_860 : decode cL_law 860 = .ok (.iload 6, 2) := by decide +kernel
theorem dL_law_862 : decode cL_law 862 = .ok (.ifCond .ne 35, 3) := by decide +kernel
theorem dL_law_865 : decode cL_law 865 = .ok (.aload 4, 2) := by decide +kernel
theorem dL_law_867 : decode cL_law 867 = .ok (.iconst 0, 1) := by decide +kernel
theorem dL_law_868 : decode cL_law 868 = .ok (.daload, 1) := by decide +kernel
theorem dL_law_869 : decode cL_law 869 = .ok (.dload 7, 2) := by decide +kernel
theorem dL_law_871 : decode cL_law 871 = .ok (.dcmp .l, 1) := by decide +kernel
theorem dL_law_872 : decode cL_law 872 = .ok (.ifCond .eq 25, 3) := by decide +kernel
theorem dL_law_875 : decode cL_law 875 = .ok (.aload 4, 2) := by decide +kernel
theorem dL_law_877 : decode cL_law 877 = .ok (.iconst 0, 1) := by decide +kernel
theorem dL_law_878 : decode cL_law 878 = .ok (.daload, 1) := by decide +kernel
theorem dL_law_879 : decode cL_law 879 = .ok (.aload 4, 2) := by decide +kernel
theorem dL_law_881 : decode cL_law 881 = .ok (.iconst 0, 1) := by decide +kernel
theorem dL_law_882 : decode cL_law 882 = .ok (.daload, 1) := by decide +kernel
theorem dL_law_883 : decode cL_law 883 = .ok (.dcmp .l, 1) := by decide +kernel
theorem dL_law_884 : decode cL_law 884 = .ok (.ifCond .eq 11, 3) := by decide +kernel
theorem dL_law_887 : decode cL_law 887 = .ok (.dload 7, 2) := by decide +kernel
theorem dL_law_889 : decode cL_law 889 = .ok (.dload 7, 2) := by decide +kernel
theorem dL_law_891 : decode cL_law 891 = .ok (.dcmp .l, 1) := by decide +kernel
theorem dL_law_892 : decode cL_law 892 = .ok (.ifCond .ne 5, 3) := by decide +kernel
theorem dL_law_895 : decode cL_law 895 = .ok (.iconst 0, 1) := by decide +kernel
theorem dL_law_896 : decode cL_law 896 = .ok (.ireturn, 1) := by decide +kernel
theorem dL_law_897 : decode cL_law 897 = .ok (.goto 280, 3) := by decide +kernel
theorem dL_law_900 : decode cL_law 900 = .ok (.aload_n 1, 1) := by decide +kernel
theorem dL_law_901 : decode cL_law 901 = .ok (.aload_n 0, 1) := by decide +kernel
theorem dL_law_902 : decode cL_law 902 = .ok (.iload 5, 2) := by decide +kernel
theorem dL_law_904 : decode cL_law 904 = .ok (.iconst 1, 1) := by decide +kernel
theorem dL_law_905 : decode cL_law 905 = .ok (.iadd, 1) := by decide +kernel
theorem dL_law_906 : decode cL_law 906 = .ok (.iaload, 1) := by decide +kernel
theorem dL_law_907 : decode cL_law 907 = .ok (.aload_n 0, 1) := by decide +kernel
theorem dL_law_908 : decode cL_law 908 = .ok (.iload 5, 2) := by decide +kernel
theorem dL_law_910 : decode cL_law 910 = .ok (.iconst 2, 1) := by decide +kernel
theorem dL_law_911 : decode cL_law 911 = .ok (.iadd, 1) := by decide +kernel
theorem dL_law_912 : decode cL_law 912 = .ok (.iaload, 1) := by decide +kernel
theorem dL_law_913 : decode cL_law 913 = .ok (.aload 4, 2) := by decide +kernel
theorem dL_law_915 : decode cL_law 915 = .ok (.invokestatic 129, 3) := by decide +kernel
theorem dL_law_918 : decode cL_law 918 = .ok (.istore 6, 2) := by decide +kernel
theorem dL_law_920 : decode cL_law 920 = .ok (.aload_n 2, 1) := by decide +kernel
theorem dL_law_921 : decode cL_law 921 = .ok (.aload_n 0, 1) := by decide +kernel
theorem dL_law_922 : decode cL_law 922 = .ok (.iload 5, 2) := by decide +kernel
theorem dL_law_924 : decode cL_law 924 = .ok (.iconst 1, 1) := by decide +kernel
theorem dL_law_925 : decode cL_law 925 = .ok (.iadd, 1) := by decide +kernel
theorem dL_law_926 : decode cL_law 926 = .ok (.iaload, 1) := by decide +kernel
theorem dL_law_927 : decode cL_law 927 = .ok (.aload_n 0, 1) := by decide +kernel
theorem dL_law_928 : decode cL_law 928 = .ok (.iload 5, 2) := by decide +kernel
theorem dL_law_930 : decode cL_law 930 = .ok (.iconst 2, 1) := by decide +kernel
theorem dL_law_931 : decode cL_law 931 = .ok (.iadd, 1) := by decide +kernel
theorem dL_law_932 : decode cL_law 932 = .ok (.iaload, 1) := by decide +kernel
theorem dL_law_933 : decode cL_law 933 = .ok (.invokevirtual 131, 3) := by decide +kernel
theorem dL_law_936 : decode cL_law 936 = .ok (.dstore 7, 2) := by decide +kernel
theorem dL_law_938 : decode cL_law 938 = .ok (.aload_n 2, 1) := by decide +kernel
theorem dL_law_939 : decode cL_law 939 = .ok (.invokevirtual 81, 3) := by decide +kernel
theorem dL_law_942 : decode cL_law 942 = .ok (.iload 6, 2) := by decide +kernel
theorem dL_law_944 : decode cL_law 944 = .ok (.if_icmp .eq 5, 3) := by decide +kernel
theorem dL_law_947 : decode cL_law 947 = .ok (.iconst 0, 1) := by decide +kernel
theorem dL_law_948 : decode cL_law 948 = .ok (.ireturn, 1) := by decide +kernel
theorem dL_law_949 : decode cL_law 949 = .ok (.iload 6, 2) := by decide +kernel
theorem dL_law_951 : decode cL_law 951 = .ok (.ifCond .ne 35, 3) := by decide +kernel
theorem dL_law_954 : decode cL_law 954 = .ok (.aload 4, 2) := by decide +kernel
theorem dL_law_956 : decode cL_law 956 = .ok (.iconst 0, 1) := by decide +kernel
theorem dL_law_957 : decode cL_law 957 = .ok (.daload, 1) := by decide +kernel
theorem dL_law_958 : decode cL_law 958 = .ok (.dload 7, 2) := by decide +kernel
theorem dL_law_960 : decode cL_law 960 = .ok (.dcmp .l, 1) := by decide +kernel
theorem dL_law_961 : decode cL_law 961 = .ok (.ifCond .eq 25, 3) := by decide +kernel
theorem dL_law_964 : decode cL_law 964 = .ok (.aload 4, 2) := by decide +kernel
theorem dL_law_966 : decode cL_law 966 = .ok (.iconst 0, 1) := by decide +kernel
theorem dL_law_967 : decode cL_law 967 = .ok (.daload, 1) := by decide +kernel
theorem dL_law_968 : decode cL_law 968 = .ok (.aload 4, 2) := by decide +kernel
theorem dL_law_970 : decode cL_law 970 = .ok (.iconst 0, 1) := by decide +kernel
theorem dL_law_971 : decode cL_law 971 = .ok (.daload, 1) := by decide +kernel
theorem dL_law_972 : decode cL_law 972 = .ok (.dcmp .l, 1) := by decide +kernel
theorem dL_law_973 : decode cL_law 973 = .ok (.ifCond .eq 11, 3) := by decide +kernel
theorem dL_law_976 : decode cL_law 976 = .ok (.dload 7, 2) := by decide +kernel
theorem dL_law_978 : decode cL_law 978 = .ok (.dload 7, 2) := by decide +kernel
theorem dL_law_980 : decode cL_law 980 = .ok (.dcmp .l, 1) := by decide +kernel
theorem dL_law_981 : decode cL_law 981 = .ok (.ifCond .ne 5, 3) := by decide +kernel
theorem dL_law_984 : decode cL_law 984 = .ok (.iconst 0, 1) := by decide +kernel
theorem dL_law_985 : decode cL_law 985 = .ok (.ireturn, 1) := by decide +kernel
theorem dL_law_986 : decode cL_law 986 = .ok (.goto 191, 3) := by decide +kernel
theorem dL_law_989 : decode cL_law 989 = .ok (.aload_n 1, 1) := by decide +kernel
theorem dL_law_990 : decode cL_law 990 = .ok (.invokevirtual 132, 3) := by decide +kernel
theorem dL_law_993 : decode cL_law 993 = .ok (.dstore 6, 2) := by decide +kernel
theorem dL_law_995 : decode cL_law 995 = .ok (.aload_n 2, 1) := by decide +kernel
theorem dL_law_996 : decode cL_law 996 = .ok (.invokevirtual 136, 3) := by decide +kernel
theorem dL_law_999 : decode cL_law 999 = .ok (.dstore 8, 2) := by decide +kernel
theorem dL_law_1001 : decode cL_law 1001 = .ok (.dload 6, 2) := by decide +kernel
theorem dL_law_1003 : decode cL_law 1003 = .ok (.dload 8, 2) := by decide +kernel
theorem dL_law_1005 : decode cL_law 1005 = .ok (.dcmp .l, 1) := by decide +kernel
theorem dL_law_1006 : decode cL_law 1006 = .ok (.ifCond .eq 21, 3) := by decide +kernel
theorem dL_law_1009 : decode cL_law 1009 = .ok (.dload 6, 2) := by decide +kernel
theorem dL_law_1011 : decode cL_law 1011 = .ok (.dload 6, 2) := by decide +kernel
theorem dL_law_1013 : decode cL_law 1013 = .ok (.dcmp .l, 1) := by decide +kernel
theorem dL_law_1014 : decode cL_law 1014 = .ok (.ifCond .eq 11, 3) := by decide +kernel
theorem dL_law_1017 : decode cL_law 1017 = .ok (.dload 8, 2) := by decide +kernel
theorem dL_law_1019 : decode cL_law 1019 = .ok (.dload 8, 2) := by decide +kernel
theorem dL_law_1021 : decode cL_law 1021 = .ok (.dcmp .l, 1) := by decide +kernel
theorem dL_law_1022 : decode cL_law 1022 = .ok (.ifCond .ne 5, 3) := by decide +kernel
theorem dL_law_1025 : decode cL_law 1025 = .ok (.iconst 0, 1) := by decide +kernel
theorem dL_law_1026 : decode cL_law 1026 = .ok (.ireturn, 1) := by decide +kernel
theorem dL_law_1027 : decode cL_law 1027 = .ok (.goto 150, 3) := by decide +kernel
theorem dL_law_1030 : decode cL_law 1030 = .ok (.aload_n 1, 1) := by decide +kernel
theorem dL_law_1031 : decode cL_law 1031 = .ok (.aload_n 0, 1) := by decide +kernel
theorem dL_law_1032 : decode cL_law 1032 = .ok (.iload 5, 2) := by decide +kernel
theorem dL_law_1034 : decode cL_law 1034 = .ok (.iconst 1, 1) := by decide +kernel
theorem dL_law_1035 : decode cL_law 1035 = .ok (.iadd, 1) := by decide +kernel
theorem dL_law_1036 : decode cL_law 1036 = .ok (.iaload, 1) := by decide +kernel
theorem dL_law_1037 : decode cL_law 1037 = .ok (.aload 4, 2) := by decide +kernel
theorem dL_law_1039 : decode cL_law 1039 = .ok (.invokestatic 137, 3) := by decide +kernel
theorem dL_law_1042 : decode cL_law 1042 = .ok (.istore 6, 2) := by decide +kernel
theorem dL_law_1044 : decode cL_law 1044 = .ok (.aload_n 2, 1) := by decide +kernel
theorem dL_law_1045 : decode cL_law 1045 = .ok (.aload_n 0, 1) := by decide +kernel
theorem dL_law_1046 : decode cL_law 1046 = .ok (.iload 5, 2) := by decide +kernel
theorem dL_law_1048 : decode cL_law 1048 = .ok (.iconst 1, 1) := by decide +kernel
theorem dL_law_1049 : decode cL_law 1049 = .ok (.iadd, 1) := by decide +kernel
theorem dL_law_1050 : decode cL_law 1050 = .ok (.iaload, 1) := by decide +kernel
theorem dL_law_1051 : decode cL_law 1051 = .ok (.invokevirtual 139, 3) := by decide +kernel
theorem dL_law_1054 : decode cL_law 1054 = .ok (.dstore 7, 2) := by decide +kernel
theorem dL_law_1056 : decode cL_law 1056 = .ok (.aload_n 2, 1) := by decide +kernel
theorem dL_law_1057 : decode cL_law 1057 = .ok (.invokevirtual 81, 3) := by decide +kernel
theorem dL_law_1060 : decode cL_law 1060 = .ok (.iload 6, 2) := by decide +kernel
theorem dL_law_1062 : decode cL_law 1062 = .ok (.if_icmp .eq 5, 3) := by decide +kernel
theorem dL_law_1065 : decode cL_law 1065 = .ok (.iconst 0, 1) := by decide +kernel
theorem dL_law_1066 : decode cL_law 1066 = .ok (.ireturn, 1) := by decide +kernel
theorem dL_law_1067 : decode cL_law 1067 = .ok (.iload 6, 2) := by decide +kernel
theorem dL_law_1069 : decode cL_law 1069 = .ok (.ifCond .ne 35, 3) := by decide +kernel
theorem dL_law_1072 : decode cL_law 1072 = .ok (.aload 4, 2) := by decide +kernel
theorem dL_law_1074 : decode cL_law 1074 = .ok (.iconst 0, 1) := by decide +kernel
theorem dL_law_1075 : decode cL_law 1075 = .ok (.daload, 1) := by decide +kernel
theorem dL_law_1076 : decode cL_law 1076 = .ok (.dload 7, 2) := by decide +kernel
theorem dL_law_1078 : decode cL_law 1078 = .ok (.dcmp .l, 1) := by decide +kernel
theorem dL_law_1079 : decode cL_law 1079 = .ok (.ifCond .eq 25, 3) := by decide +kernel
theorem dL_law_1082 : decode cL_law 1082 = .ok (.aload 4, 2) := by decide +kernel
theorem dL_law_1084 : decode cL_law 1084 = .ok (.iconst 0, 1) := by decide +kernel
theorem dL_law_1085 : decode cL_law 1085 = .ok (.daload, 1) := by decide +kernel
theorem dL_law_1086 : decode cL_law 1086 = .ok (.aload 4, 2) := by decide +kernel
theorem dL_law_1088 : decode cL_law 1088 = .ok (.iconst 0, 1) := by decide +kernel
theorem dL_law_1089 : decode cL_law 1089 = .ok (.daload, 1) := by decide +kernel
theorem dL_law_1090 : decode cL_law 1090 = .ok (.dcmp .l, 1) := by decide +kernel
theorem dL_law_1091 : decode cL_law 1091 = .ok (.ifCond .eq 11, 3) := by decide +kernel
theorem dL_law_1094 : decode cL_law 1094 = .ok (.dload 7, 2) := by decide +kernel
theorem dL_law_1096 : decode cL_law 1096 = .ok (.dload 7, 2) := by decide +kernel
theorem dL_law_1098 : decode cL_law 1098 = .ok (.dcmp .l, 1) := by decide +kernel
theorem dL_law_1099 : decode cL_law 1099 = .ok (.ifCond .ne 5, 3) := by decide +kernel
theorem dL_law_1102 : decode cL_law 1102 = .ok (.iconst 0, 1) := by decide +kernel
theorem dL_law_1103 : decode cL_law 1103 = .ok (.ireturn, 1) := by decide +kernel
theorem dL_law_1104 : decode cL_law 1104 = .ok (.goto 73, 3) := by decide +kernel
theorem dL_law_1107 : decode cL_law 1107 = .ok (.aload_n 1, 1) := by decide +kernel
theorem dL_law_1108 : decode cL_law 1108 = .ok (.invokevirtual 140, 3) := by decide +kernel
theorem dL_law_1111 : decode cL_law 1111 = .ok (.aload_n 2, 1) := by decide +kernel
theorem dL_law_1112 : decode cL_law 1112 = .ok (.invokevirtual 144, 3) := by decide +kernel
theorem dL_law_1115 : decode cL_law 1115 = .ok (.lcmp, 1) := by decide +kernel
theorem dL_law_1116 : decode cL_law 1116 = .ok (.ifCond .eq 61, 3) := by decide +kernel
theorem dL_law_1119 : decode cL_law 1119 = .ok (.iconst 0, 1) := by decide +kernel
theorem dL_law_1120 : decode cL_law 1120 = .ok (.ireturn, 1) := by decide +kernel
theorem dL_law_1121 : decode cL_law 1121 = .ok (.aload_n 1, 1) := by decide +kernel
theorem dL_law_1122 : decode cL_law 1122 = .ok (.aload_n 0, 1) := by decide +kernel
theorem dL_law_1123 : decode cL_law 1123 = .ok (.iload 5, 2) := by decide +kernel
theorem dL_law_1125 : decode cL_law 1125 = .ok (.iconst 1, 1) := by decide +kernel
theorem dL_law_1126 : decode cL_law 1126 = .ok (.iadd, 1) := by decide +kernel
theorem dL_law_1127 : decode cL_law 1127 = .ok (.iaload, 1) := by decide +kernel
theorem dL_law_1128 : decode cL_law 1128 = .ok (.aload_n 3, 1) := by decide +kernel
theorem dL_law_1129 : decode cL_law 1129 = .ok (.invokestatic 145, 3) := by decide +kernel
theorem dL_law_1132 : decode cL_law 1132 = .ok (.istore 6, 2) := by decide +kernel
theorem dL_law_1134 : decode cL_law 1134 = .ok (.aload_n 2, 1) := by decide +kernel
theorem dL_law_1135 : decode cL_law 1135 = .ok (.aload_n 0, 1) := by decide +kernel
theorem dL_law_1136 : decode cL_law 1136 = .ok (.iload 5, 2) := by decide +kernel
theorem dL_law_1138 : decode cL_law 1138 = .ok (.iconst 1, 1) := by decide +kernel
theorem dL_law_1139 : decode cL_law 1139 = .ok (.iadd, 1) := by decide +kernel
theorem dL_law_1140 : decode cL_law 1140 = .ok (.iaload, 1) := by decide +kernel
theorem dL_law_1141 : decode cL_law 1141 = .ok (.invokevirtual 147, 3) := by decide +kernel
theorem dL_law_1144 : decode cL_law 1144 = .ok (.istore 7, 2) := by decide +kernel
theorem dL_law_1146 : decode cL_law 1146 = .ok (.aload_n 2, 1) := by decide +kernel
theorem dL_law_1147 : decode cL_law 1147 = .ok (.invokevirtual 81, 3) := by decide +kernel
theorem dL_law_1150 : decode cL_law 1150 = .ok (.iload 6, 2) := by decide +kernel
theorem dL_law_1152 : decode cL_law 1152 = .ok (.if_icmp .eq 5, 3) := by decide +kernel
theorem dL_law_1155 : decode cL_law 1155 = .ok (.iconst 0, 1) := by decide +kernel
theorem dL_law_1156 : decode cL_law 1156 = .ok (.ireturn, 1) := by decide +kernel
theorem dL_law_1157 : decode cL_law 1157 = .ok (.iload 6, 2) := by decide +kernel
theorem dL_law_1159 : decode cL_law 1159 = .ok (.ifCond .ne 15, 3) := by decide +kernel
theorem dL_law_1162 : decode cL_law 1162 = .ok (.aload_n 3, 1) := by decide +kernel
theorem dL_law_1163 : decode cL_law 1163 = .ok (.iconst 0, 1) := by decide +kernel
theorem dL_law_1164 : decode cL_law 1164 = .ok (.laload, 1) := by decide +kernel
theorem dL_law_1165 : decode cL_law 1165 = .ok (.iload 7, 2) := by decide +kernel
theorem dL_law_1167 : decode cL_law 1167 = .ok (.i2l, 1) := by decide +kernel
theorem dL_law_1168 : decode cL_law 1168 = .ok (.lcmp, 1) := by decide +kernel
theorem dL_law_1169 : decode cL_law 1169 = .ok (.ifCond .eq 5, 3) := by decide +kernel
theorem dL_law_1172 : decode cL_law 1172 = .ok (.iconst 0, 1) := by decide +kernel
theorem dL_law_1173 : decode cL_law 1173 = .ok (.ireturn, 1) := by decide +kernel
theorem dL_law_1174 : decode cL_law 1174 = .ok (.goto 3, 3) := by decide +kernel
theorem dL_law_1177 : decode cL_law 1177 = .ok (.iinc 5 5, 3) := by decide +kernel
theorem dL_law_1180 : decode cL_law 1180 = .ok (.goto (-1132), 3) := by decide +kernel
theorem dL_law_1183 : decode cL_law 1183 = .ok (.iconst 1, 1) := by decide +kernel
theorem dL_law_1184 : decode cL_law 1184 = .ok (.ireturn, 1) := by decide +kernel
end
section
/-! ===== worlds: one pool of cells: L the addresses, f what each holds ===== -/
abbrev tyL (dA : Nat → ClassId) : List (ClassId × FieldType) := [(dA 0, .char), (dA 1, .double), (dA 2, .int), (dA 3, .boolean), (dA 4, .long), (dA 5, .object RX1), (dA 6, .object RX2)]
abbrev aI (cA : ClassId) (n : Nat) (g : Nat → Int32) : va_E := .inl (cA, n, .inl g)
abbrev aL (cA : ClassId) (n : Nat) (g : Nat → Int64) : va_E := .inl (cA, n, .inr (.inl g))
abbrev aD (cA : ClassId) (n : Nat) (g : Nat → UInt64) : va_E := .inl (cA, n, .inr (.inr (.inr (.inl g))))
abbrev aQ (cA : ClassId) (n : Nat) (g : Nat → Option Nat) : va_E := .inl (cA, n, .inr (.inr (.inr (.inr g))))
def ww (G : va_G) (dA : Nat → ClassId) (A : Nat → Prop) (s : State) (L : List Nat) (f : Nat → va_E) (H : Heap) (locs : List Loc) : Prop :=
  va_K G vwCl (tyL dA) s ∧ va_P G vwCl (va_pl L f) H ∧ va_D A (va_pl L f) ∧ va_S A s.heap H locs
theorem pl_get {L : List Nat} {f : Nat → va_E} {a : Nat} (h : a ∈ L) : ∃ k : Nat, (va_pl L f)[k]? = some (a, f a) := va_pl_get (X := []) h
theorem pl_set {A : Nat → Prop} {L : List Nat} {f : Nat → va_E} {a k : Nat} {e : va_E} (hD : va_D A (va_pl L f)) (h : a ∈ L) (hk : (va_pl L f)[k]? = some (a, f a)) : (va_pl L f).set k (a, e) = va_pl L (va_up f a e) := va_pl_set (X := []) hD h hk
theorem ww.free {G : va_G} {dA : Nat → ClassId} {A : Nat → Prop} {s : State} {L : List Nat} {f : Nat → va_E} {H : Heap} {locs : List Loc} (hw : ww G dA A s L f H locs) (hA : ∀ q, s.heap.size ≤ q → A q) : ∀ q, va_A (va_pl L f) H.size q → A q := by
  intro q h
  rcases h with ⟨k, e, h⟩ | h
  · exact hw.2.2.1.2 k (q, e) h
  · exact hA q (Nat.le_trans hw.2.2.2.1 h)
def wPre (G : va_G) (dA : Nat → ClassId) (L : List Nat) (f : Nat → va_E) (sz : Nat) : State → Prop := fun U => U.heap.size = sz ∧ va_P G vwCl (va_pl L f) U.heap ∧ va_K G vwCl (tyL dA) U ∧ va_D (fun _ => True) (va_pl L f)
def wPost (G : va_G) (dA : Nat → ClassId) (L : List Nat) (A : Nat → Prop) : (Nat → va_E) → State → Prop := fun f2 t => va_P G vwCl (va_pl L f2) t.heap ∧ va_K G vwCl (tyL dA) t ∧ va_D A (va_pl L f2)
theorem wPre.blind {G : va_G} {dA : Nat → ClassId} {L : List Nat} {f : Nat → va_E} {sz : Nat} {av : List Value} : FrameBlind (va_Pc av (wPre G dA L f sz)) := fun a U g mk q => by
  obtain ⟨q0, q1, qP, qK, qD⟩ := q
  exact ⟨q0, q1, qP, va_K.moved (u := U) (U := U.calling g mk a) (Vm.Alike.refl U.vm) qK, qD⟩
section WROWS
variable {p : Program} {l : Launch} {e : Env} {R : Room} {s : State} {m : MethodId} {args : Array Value} {below : List Frame} {meth : Method} {c : Code} {H : Heap} {locs : List Loc} {cells slots : Nat} {Q : State → Prop}
variable {cc : ByteArray} {pc : Nat} {ls : Array Slot} {rest : List Value} {G : va_G} {dA : Nat → ClassId} {A : Nat → Prop} {a : Nat} {L : List Nat} {f : Nat → va_E}
theorem wg (hx : p.tables.exec = Jvm.exec) (hb : c.code = cc) {own ref C : String} {T : u_T} {N ci index : Nat} {Ts : List Cond} (hts : ∀ w ∈ Ts, w.before args s = true) (hin : ∀ w ∈ u_ws C T N, w ∈ Ts) (hown : s.vm.findClass own = some m.cls) (hw : ww G dA A s L f H locs) (hL : a ∈ L) {fs : List Value} (hf : f a = .inr (ci, fs)) (hc : vwCl[ci]? = some (C, T, N)) (k : Nat) (hk : k < N) (hlink : (Cond.fieldLink own index ref (T k).2.1 (T k).2.2.1).before args s = true) (hsame : ∀ x, s.fieldFound? (T k).1 (T k).2.1 (T k).2.2.1 = some x → s.fieldFound? ref (T k).2.1 (T k).2.2.1 = some x) {v : Value} (hv : fs[k]? = some v) (hdg : decode cc pc = .ok (.getfield index, 3))
    (kk : W p l e R s m args below meth c H locs cells slots Q (F0 m (pc + 3) ls (v :: rest))) : W p l e R s m args below meth c H locs cells slots Q (F0 m pc ls (.ref a :: rest)) := by
  obtain ⟨q, hq⟩ := pl_get (f := f) hL
  rw [hf] at hq
  exact va_get hx hb hts hin hown hw.1 hw.2.1 q hq hc k hk hlink hsame hv hdg kk
theorem wp_ (hx : p.tables.exec = Jvm.exec) (hb : c.code = cc) {own ref C : String} {T : u_T} {N ci index : Nat} {Ts : List Cond} (hts : ∀ w ∈ Ts, w.before args s = true) (hin : ∀ w ∈ u_ws C T N, w ∈ Ts) (ty0 : Nat → FieldType) (hty : ∀ k, k < N → parseFieldDescriptor (T k).2.2.1 = some (ty0 k)) (hnm : ∀ a, a < N → ∀ b, b < N → a ≠ b → (T a).2.1 ≠ (T b).2.1) (hown : s.vm.findClass own = some m.cls) (hw : ww G dA A s L f H locs) (hL : a ∈ L) {fs : List Value} (hf : f a = .inr (ci, fs)) (hc : vwCl[ci]? = some (C, T, N)) (k : Nat) (hk : k < N) (hlink : (Cond.fieldLink own index ref (T k).2.1 (T k).2.2.1).before args s = true) (hsame : ∀ x, s.fieldFound? (T k).1 (T k).2.1 (T k).2.2.1 = some x → s.fieldFound? ref (T k).2.1 (T k).2.2.1 = some x) (hfin : (T k).2.2.2 = false) {ty : FieldType} {v : Value} (hd : parseFieldDescriptor (T k).2.2.1 = some ty) (hn : narrow ty v = v) (hfit : fits ty v = true) (hl : k < fs.length)
    (hdg : decode cc pc = .ok (.putfield index, 3)) (kk : ∀ (H1 : Heap) (locs1 : List Loc), ww G dA A s L (va_up f a (.inr (ci, fs.set k v))) H1 locs1 → W p l e R s m args below meth c H1 locs1 cells slots Q (F0 m (pc + 3) ls rest)) : W p l e R s m args below meth c H locs cells slots Q (F0 m pc ls (v :: .ref a :: rest)) := by
  obtain ⟨q, hq⟩ := pl_get (f := f) hL
  have hq' := hq
  rw [hf] at hq'
  refine va_put hx hb hts hin ty0 hty hnm hown hw.1 hw.2.1 hw.2.2.1 hw.2.2.2 q hq' hc k hk hlink hsame hfin hd hn hfit hl hdg (fun H1 locs1 hP hD hS => kk H1 locs1 ⟨hw.1, ?_, ?_, hS⟩)
  · rw [← pl_set hw.2.2.1 hL hq]; exact hP
  · rw [← pl_set hw.2.2.1 hL hq]; exact hD
theorem wpF_ (hx : p.tables.exec = Jvm.exec) (hb : c.code = cc) {own ref C : String} {T : u_T} {N ci index : Nat} {Ts : List Cond} (hts : ∀ w ∈ Ts, w.before args s = true) (hin : ∀ w ∈ u_ws C T N, w ∈ Ts) (ty0 : Nat → FieldType) (hty : ∀ k, k < N → parseFieldDescriptor (T k).2.2.1 = some (ty0 k)) (hnm : ∀ a, a < N → ∀ b, b < N → a ≠ b → (T a).2.1 ≠ (T b).2.1) (hown : s.vm.findClass own = some m.cls) (hw : ww G dA A s L f H locs) (hL : a ∈ L) {fs : List Value} (hf : f a = .inr (ci, fs)) (hc : vwCl[ci]? = some (C, T, N)) (k : Nat) (hk : k < N) (hlink : (Cond.fieldLink own index ref (T k).2.1 (T k).2.2.1).before args s = true) (hsame : ∀ x, s.fieldFound? (T k).1 (T k).2.1 (T k).2.2.1 = some x → s.fieldFound? ref (T k).2.1 (T k).2.2.1 = some x) (hfin : (T k).2.2.2 = true) (hin2 : meth.name = "<init>") (hdecl : (T k).1 = own) {ty : FieldType} {v : Value} (hd : parseFieldDescriptor (T k).2.2.1 = some ty) (hn : narrow ty v = v) (hfit : fits ty v = true) (hl : k < fs.length)
    (hdg : decode cc pc = .ok (.putfield index, 3)) (kk : ∀ (H1 : Heap) (locs1 : List Loc), ww G dA A s L (va_up f a (.inr (ci, fs.set k v))) H1 locs1 → W p l e R s m args below meth c H1 locs1 cells slots Q (F0 m (pc + 3) ls rest)) : W p l e R s m args below meth c H locs cells slots Q (F0 m pc ls (v :: .ref a :: rest)) := by
  obtain ⟨q, hq⟩ := pl_get (f := f) hL
  have hq' := hq
  rw [hf] at hq'
  refine va_putF hx hb hts hin ty0 hty hnm hown hw.1 hw.2.1 hw.2.2.1 hw.2.2.2 q hq' hc k hk hlink hsame hfin hin2 hdecl hd hn hfit hl hdg (fun H1 locs1 hP hD hS => kk H1 locs1 ⟨hw.1, ?_, ?_, hS⟩)
  · rw [← pl_set hw.2.2.1 hL hq]; exact hP
  · rw [← pl_set hw.2.2.1 hL hq]; exact hD
theorem wlen (hx : p.tables.exec = Jvm.exec) (hb : c.code = cc) (t0 : Nat) (hw : ww G dA A s L f H locs) (hL : a ∈ L) {cA : ClassId} {x : vp_A} (hf : f a = .inl (cA, x)) {ty : FieldType} (ht : (tyL dA)[t0]? = some (cA, ty)) (hdg : decode cc pc = .ok (.arraylength, 1))
    (kk : W p l e R s m args below meth c H locs cells slots Q (F0 m (pc + 1) ls (.int (nI x.1) :: rest))) : W p l e R s m args below meth c H locs cells slots Q (F0 m pc ls (.ref a :: rest)) := by
  obtain ⟨q, hq⟩ := pl_get (f := f) hL
  rw [hf] at hq
  exact va_alen hx hb hw.1 hw.2.1 q t0 hq ht rfl hdg kk
theorem wld_i (hx : p.tables.exec = Jvm.exec) (hb : c.code = cc) (hw : ww G dA A s L f H locs) (hL : a ∈ L) {n : Nat} {g : Nat → Int32} (hf : f a = aI (dA 2) n g) {i : Int32} (j : Nat) (hj : j < n) (hn : n < 2 ^ 31) (hi : i = nI j) (hdg : decode cc pc = .ok (.iaload, 1))
    (kk : W p l e R s m args below meth c H locs cells slots Q (F0 m (pc + 1) ls (.int (g j) :: rest))) : W p l e R s m args below meth c H locs cells slots Q (F0 m pc ls (.int i :: .ref a :: rest)) := by
  obtain ⟨q, hq⟩ := pl_get (f := f) hL
  rw [hf] at hq
  subst hi
  refine va_iald hx hb hw.1 hw.2.1 q 2 hq rfl (vp_in_nI hj hn) hdg ?_
  rw [nI_clamp (Nat.lt_trans hj hn)]
  exact kk
theorem wld_z (hx : p.tables.exec = Jvm.exec) (hb : c.code = cc) (hw : ww G dA A s L f H locs) (hL : a ∈ L) {n : Nat} {g : Nat → Int32} (hf : f a = aI (dA 3) n g) {i : Int32} (j : Nat) (hj : j < n) (hn : n < 2 ^ 31) (hi : i = nI j) (hdg : decode cc pc = .ok (.baload, 1))
    (kk : W p l e R s m args below meth c H locs cells slots Q (F0 m (pc + 1) ls (.int (g j) :: rest))) : W p l e R s m args below meth c H locs cells slots Q (F0 m pc ls (.int i :: .ref a :: rest)) := by
  obtain ⟨q, hq⟩ := pl_get (f := f) hL
  rw [hf] at hq
  subst hi
  refine va_zald hx hb hw.1 hw.2.1 q 3 hq rfl (vp_in_nI hj hn) hdg ?_
  rw [nI_clamp (Nat.lt_trans hj hn)]
  exact kk
theorem wld_c (hx : p.tables.exec = Jvm.exec) (hb : c.code = cc) (hw : ww G dA A s L f H locs) (hL : a ∈ L) {n : Nat} {g : Nat → Int32} (hf : f a = aI (dA 0) n g) {i : Int32} (j : Nat) (hj : j < n) (hn : n < 2 ^ 31) (hi : i = nI j) (hdg : decode cc pc = .ok (.caload, 1))
    (kk : W p l e R s m args below meth c H locs cells slots Q (F0 m (pc + 1) ls (.int (g j) :: rest))) : W p l e R s m args below meth c H locs cells slots Q (F0 m pc ls (.int i :: .ref a :: rest)) := by
  obtain ⟨q, hq⟩ := pl_get (f := f) hL
  rw [hf] at hq
  subst hi
  refine va_cald hx hb hw.1 hw.2.1 q 0 hq rfl (vp_in_nI hj hn) hdg ?_
  rw [nI_clamp (Nat.lt_trans hj hn)]
  exact kk
theorem wld_d (hx : p.tables.exec = Jvm.exec) (hb : c.code = cc) (hw : ww G dA A s L f H locs) (hL : a ∈ L) {n : Nat} {g : Nat → UInt64} (hf : f a = aD (dA 1) n g) {i : Int32} (j : Nat) (hj : j < n) (hn : n < 2 ^ 31) (hi : i = nI j) (hdg : decode cc pc = .ok (.daload, 1))
    (kk : W p l e R s m args below meth c H locs cells slots Q (F0 m (pc + 1) ls (.double (g j) :: rest))) : W p l e R s m args below meth c H locs cells slots Q (F0 m pc ls (.int i :: .ref a :: rest)) := by
  obtain ⟨q, hq⟩ := pl_get (f := f) hL
  rw [hf] at hq
  subst hi
  refine va_dald hx hb hw.1 hw.2.1 q 1 hq rfl (vp_in_nI hj hn) hdg ?_
  rw [nI_clamp (Nat.lt_trans hj hn)]
  exact kk
theorem wld_l (hx : p.tables.exec = Jvm.exec) (hb : c.code = cc) (hw : ww G dA A s L f H locs) (hL : a ∈ L) {n : Nat} {g : Nat → Int64} (hf : f a = aL (dA 4) n g) {i : Int32} (j : Nat) (hj : j < n) (hn : n < 2 ^ 31) (hi : i = nI j) (hdg : decode cc pc = .ok (.laload, 1))
    (kk : W p l e R s m args below meth c H locs cells slots Q (F0 m (pc + 1) ls (.long (g j) :: rest))) : W p l e R s m args below meth c H locs cells slots Q (F0 m pc ls (.int i :: .ref a :: rest)) := by
  obtain ⟨q, hq⟩ := pl_get (f := f) hL
  rw [hf] at hq
  subst hi
  refine va_lald hx hb hw.1 hw.2.1 q 4 hq rfl (vp_in_nI hj hn) hdg ?_
  rw [nI_clamp (Nat.lt_trans hj hn)]
  exact kk
theorem wld_q5 (hx : p.tables.exec = Jvm.exec) (hb : c.code = cc) (hw : ww G dA A s L f H locs) (hL : a ∈ L) {n : Nat} {g : Nat → Option Nat} (hf : f a = aQ (dA 5) n g) {i : Int32} (j : Nat) (hj : j < n) (hn : n < 2 ^ 31) (hi : i = nI j) (hdg : decode cc pc = .ok (.aaload, 1)) {v : Nat} (hv : g j = some v)
    (kk : W p l e R s m args below meth c H locs cells slots Q (F0 m (pc + 1) ls (.ref v :: rest))) : W p l e R s m args below meth c H locs cells slots Q (F0 m pc ls (.int i :: .ref a :: rest)) := by
  obtain ⟨q, hq⟩ := pl_get (f := f) hL
  rw [hf] at hq
  subst hi
  refine va_aldq hx hb hw.1 hw.2.1 q 5 hq rfl (vp_in_nI hj hn) hdg ?_
  rw [nI_clamp (Nat.lt_trans hj hn), hv]
  exact kk
theorem wld_q6 (hx : p.tables.exec = Jvm.exec) (hb : c.code = cc) (hw : ww G dA A s L f H locs) (hL : a ∈ L) {n : Nat} {g : Nat → Option Nat} (hf : f a = aQ (dA 6) n g) {i : Int32} (j : Nat) (hj : j < n) (hn : n < 2 ^ 31) (hi : i = nI j) (hdg : decode cc pc = .ok (.aaload, 1)) {v : Nat} (hv : g j = some v)
    (kk : W p l e R s m args below meth c H locs cells slots Q (F0 m (pc + 1) ls (.ref v :: rest))) : W p l e R s m args below meth c H locs cells slots Q (F0 m pc ls (.int i :: .ref a :: rest)) := by
  obtain ⟨q, hq⟩ := pl_get (f := f) hL
  rw [hf] at hq
  subst hi
  refine va_aldq hx hb hw.1 hw.2.1 q 6 hq rfl (vp_in_nI hj hn) hdg ?_
  rw [nI_clamp (Nat.lt_trans hj hn), hv]
  exact kk
theorem wst_i (hx : p.tables.exec = Jvm.exec) (hb : c.code = cc) (hw : ww G dA A s L f H locs) (hL : a ∈ L) {n : Nat} {g : Nat → Int32} (hf : f a = aI (dA 2) n g) {i : Int32} {x : Int32} (j : Nat) (hj : j < n) (hn : n < 2 ^ 31) (hi : i = nI j) (hdg : decode cc pc = .ok (.iastore, 1))
    (kk : ∀ (H1 : Heap) (locs1 : List Loc), ww G dA A s L (va_up f a (aI (dA 2) n (upd g j x))) H1 locs1 → W p l e R s m args below meth c H1 locs1 cells slots Q (F0 m (pc + 1) ls rest)) : W p l e R s m args below meth c H locs cells slots Q (F0 m pc ls (.int x :: .int i :: .ref a :: rest)) := by
  obtain ⟨q, hq⟩ := pl_get (f := f) hL
  have hq' := hq
  rw [hf] at hq'
  subst hi
  refine va_iast hx hb hw.1 hw.2.1 hw.2.2.1 hw.2.2.2 q 2 hq' rfl (vp_in_nI hj hn) hdg (fun H1 locs1 hP hD hS => kk H1 locs1 ⟨hw.1, ?_, ?_, hS⟩)
  · rw [nI_clamp (Nat.lt_trans hj hn)] at hP; rw [← pl_set hw.2.2.1 hL hq]; exact hP
  · rw [nI_clamp (Nat.lt_trans hj hn)] at hD; rw [← pl_set hw.2.2.1 hL hq]; exact hD
theorem wst_z (hx : p.tables.exec = Jvm.exec) (hb : c.code = cc) (hw : ww G dA A s L f H locs) (hL : a ∈ L) {n : Nat} {g : Nat → Int32} (hf : f a = aI (dA 3) n g) {i : Int32} {x : Int32} (j : Nat) (hj : j < n) (hn : n < 2 ^ 31) (hi : i = nI j) (hdg : decode cc pc = .ok (.bastore, 1))
    (kk : ∀ (H1 : Heap) (locs1 : List Loc), ww G dA A s L (va_up f a (aI (dA 3) n (upd g j (vp_nar .boolean x)))) H1 locs1 → W p l e R s m args below meth c H1 locs1 cells slots Q (F0 m (pc + 1) ls rest)) : W p l e R s m args below meth c H locs cells slots Q (F0 m pc ls (.int x :: .int i :: .ref a :: rest)) := by
  obtain ⟨q, hq⟩ := pl_get (f := f) hL
  have hq' := hq
  rw [hf] at hq'
  subst hi
  refine va_zast hx hb hw.1 hw.2.1 hw.2.2.1 hw.2.2.2 q 3 hq' rfl (vp_in_nI hj hn) hdg (fun H1 locs1 hP hD hS => kk H1 locs1 ⟨hw.1, ?_, ?_, hS⟩)
  · rw [nI_clamp (Nat.lt_trans hj hn)] at hP; rw [← pl_set hw.2.2.1 hL hq]; exact hP
  · rw [nI_clamp (Nat.lt_trans hj hn)] at hD; rw [← pl_set hw.2.2.1 hL hq]; exact hD
theorem wst_c (hx : p.tables.exec = Jvm.exec) (hb : c.code = cc) (hw : ww G dA A s L f H locs) (hL : a ∈ L) {n : Nat} {g : Nat → Int32} (hf : f a = aI (dA 0) n g) {i : Int32} {x : Int32} (j : Nat) (hj : j < n) (hn : n < 2 ^ 31) (hi : i = nI j) (hdg : decode cc pc = .ok (.castore, 1))
    (kk : ∀ (H1 : Heap) (locs1 : List Loc), ww G dA A s L (va_up f a (aI (dA 0) n (upd g j (vp_nar .char x)))) H1 locs1 → W p l e R s m args below meth c H1 locs1 cells slots Q (F0 m (pc + 1) ls rest)) : W p l e R s m args below meth c H locs cells slots Q (F0 m pc ls (.int x :: .int i :: .ref a :: rest)) := by
  obtain ⟨q, hq⟩ := pl_get (f := f) hL
  have hq' := hq
  rw [hf] at hq'
  subst hi
  refine va_cast hx hb hw.1 hw.2.1 hw.2.2.1 hw.2.2.2 q 0 hq' rfl (vp_in_nI hj hn) hdg (fun H1 locs1 hP hD hS => kk H1 locs1 ⟨hw.1, ?_, ?_, hS⟩)
  · rw [nI_clamp (Nat.lt_trans hj hn)] at hP; rw [← pl_set hw.2.2.1 hL hq]; exact hP
  · rw [nI_clamp (Nat.lt_trans hj hn)] at hD; rw [← pl_set hw.2.2.1 hL hq]; exact hD
theorem wst_d (hx : p.tables.exec = Jvm.exec) (hb : c.code = cc) (hw : ww G dA A s L f H locs) (hL : a ∈ L) {n : Nat} {g : Nat → UInt64} (hf : f a = aD (dA 1) n g) {i : Int32} {x : UInt64} (j : Nat) (hj : j < n) (hn : n < 2 ^ 31) (hi : i = nI j) (hdg : decode cc pc = .ok (.dastore, 1))
    (kk : ∀ (H1 : Heap) (locs1 : List Loc), ww G dA A s L (va_up f a (aD (dA 1) n (vf_upd g j x))) H1 locs1 → W p l e R s m args below meth c H1 locs1 cells slots Q (F0 m (pc + 1) ls rest)) : W p l e R s m args below meth c H locs cells slots Q (F0 m pc ls (.double x :: .int i :: .ref a :: rest)) := by
  obtain ⟨q, hq⟩ := pl_get (f := f) hL
  have hq' := hq
  rw [hf] at hq'
  subst hi
  refine va_dast hx hb hw.1 hw.2.1 hw.2.2.1 hw.2.2.2 q 1 hq' rfl (vp_in_nI hj hn) hdg (fun H1 locs1 hP hD hS => kk H1 locs1 ⟨hw.1, ?_, ?_, hS⟩)
  · rw [nI_clamp (Nat.lt_trans hj hn)] at hP; rw [← pl_set hw.2.2.1 hL hq]; exact hP
  · rw [nI_clamp (Nat.lt_trans hj hn)] at hD; rw [← pl_set hw.2.2.1 hL hq]; exact hD
theorem wst_l (hx : p.tables.exec = Jvm.exec) (hb : c.code = cc) (hw : ww G dA A s L f H locs) (hL : a ∈ L) {n : Nat} {g : Nat → Int64} (hf : f a = aL (dA 4) n g) {i : Int32} {x : Int64} (j : Nat) (hj : j < n) (hn : n < 2 ^ 31) (hi : i = nI j) (hdg : decode cc pc = .ok (.lastore, 1))
    (kk : ∀ (H1 : Heap) (locs1 : List Loc), ww G dA A s L (va_up f a (aL (dA 4) n (vp_updL g j x))) H1 locs1 → W p l e R s m args below meth c H1 locs1 cells slots Q (F0 m (pc + 1) ls rest)) : W p l e R s m args below meth c H locs cells slots Q (F0 m pc ls (.long x :: .int i :: .ref a :: rest)) := by
  obtain ⟨q, hq⟩ := pl_get (f := f) hL
  have hq' := hq
  rw [hf] at hq'
  subst hi
  refine va_last hx hb hw.1 hw.2.1 hw.2.2.1 hw.2.2.2 q 4 hq' rfl (vp_in_nI hj hn) hdg (fun H1 locs1 hP hD hS => kk H1 locs1 ⟨hw.1, ?_, ?_, hS⟩)
  · rw [nI_clamp (Nat.lt_trans hj hn)] at hP; rw [← pl_set hw.2.2.1 hL hq]; exact hP
  · rw [nI_clamp (Nat.lt_trans hj hn)] at hD; rw [← pl_set hw.2.2.1 hL hq]; exact hD
theorem wst_q5 (hx : p.tables.exec = Jvm.exec) (hb : c.code = cc) (hw : ww G dA A s L f H locs) (hL : a ∈ L) {n v : Nat} {vs : List Value} {g : Nat → Option Nat} (hf : f a = aQ (dA 5) n g) (hv : v ∈ L) (hfv : f v = .inr (2, vs)) {i : Int32} (j : Nat) (hj : j < n) (hn : n < 2 ^ 31) (hi : i = nI j) (hdg : decode cc pc = .ok (.aastore, 1))
    (kk : ∀ (H1 : Heap) (locs1 : List Loc), ww G dA A s L (va_up f a (aQ (dA 5) n (va_up g j (some v)))) H1 locs1 → W p l e R s m args below meth c H1 locs1 cells slots Q (F0 m (pc + 1) ls rest)) : W p l e R s m args below meth c H locs cells slots Q (F0 m pc ls (.ref v :: .int i :: .ref a :: rest)) := by
  obtain ⟨q, hq⟩ := pl_get (f := f) hL
  have hq' := hq
  rw [hf] at hq'
  obtain ⟨qk, hqk⟩ := pl_get (f := f) hv
  rw [hfv] at hqk
  subst hi
  refine va_astq hx hb hw.1 hw.2.1 hw.2.2.1 hw.2.2.2 q 5 qk 2 hq' rfl hqk rfl (vp_in_nI hj hn) hdg (fun H1 locs1 hP hD hS => kk H1 locs1 ⟨hw.1, ?_, ?_, hS⟩)
  · rw [nI_clamp (Nat.lt_trans hj hn)] at hP; rw [← pl_set hw.2.2.1 hL hq]; exact hP
  · rw [nI_clamp (Nat.lt_trans hj hn)] at hD; rw [← pl_set hw.2.2.1 hL hq]; exact hD
theorem wst_q6 (hx : p.tables.exec = Jvm.exec) (hb : c.code = cc) (hw : ww G dA A s L f H locs) (hL : a ∈ L) {n v : Nat} {vs : List Value} {g : Nat → Option Nat} (hf : f a = aQ (dA 6) n g) (hv : v ∈ L) (hfv : f v = .inr (3, vs)) {i : Int32} (j : Nat) (hj : j < n) (hn : n < 2 ^ 31) (hi : i = nI j) (hdg : decode cc pc = .ok (.aastore, 1))
    (kk : ∀ (H1 : Heap) (locs1 : List Loc), ww G dA A s L (va_up f a (aQ (dA 6) n (va_up g j (some v)))) H1 locs1 → W p l e R s m args below meth c H1 locs1 cells slots Q (F0 m (pc + 1) ls rest)) : W p l e R s m args below meth c H locs cells slots Q (F0 m pc ls (.ref v :: .int i :: .ref a :: rest)) := by
  obtain ⟨q, hq⟩ := pl_get (f := f) hL
  have hq' := hq
  rw [hf] at hq'
  obtain ⟨qk, hqk⟩ := pl_get (f := f) hv
  rw [hfv] at hqk
  subst hi
  refine va_astq hx hb hw.1 hw.2.1 hw.2.2.1 hw.2.2.2 q 6 qk 3 hq' rfl hqk rfl (vp_in_nI hj hn) hdg (fun H1 locs1 hP hD hS => kk H1 locs1 ⟨hw.1, ?_, ?_, hS⟩)
  · rw [nI_clamp (Nat.lt_trans hj hn)] at hP; rw [← pl_set hw.2.2.1 hL hq]; exact hP
  · rw [nI_clamp (Nat.lt_trans hj hn)] at hD; rw [← pl_set hw.2.2.1 hL hq]; exact hD
end WROWS
section WCON
variable {l : Launch} {y : MethodName} {ws ws' : List Cond} {rm : Room} {G : va_G} {dA : Nat → ClassId} {av : List Value} {L : List Nat} {f : Nat → va_E} {cc : ByteArray} {maxL : Nat}
def mD (l : Launch) (y : MethodName) (ws : List Cond) (rm : Room) (G : va_G) (dA : Nat → ClassId) (av : List Value) (L : List Nat) (f : Nat → va_E) (post : UInt64 → (Nat → va_E) → Prop) : Prop :=
  ∀ sz : Nat, Met l y ws rm (va_Pc av (wPre G dA L f sz)) (va_Qd post (wPost G dA L (va_A (va_pl L f) sz)) (va_A (va_pl L f) sz)) 0 0 (va_A (va_pl L f) sz)
theorem mD_of {post : UInt64 → (Nat → va_E) → Prop} (hy : plainName y.cls = true) (hwd : ws = Cond.code y cc maxL (some .double) :: ws') (hlen : (lg_sl av).length ≤ maxL)
    (body : ∀ (p : Program) (e : Env) (s : State) (m : MethodId) (below : List Frame) (meth : Method) (c : Code) (A : Nat → Prop) (ls : Array Slot) (Q : State → Prop), p.tables.exec = Jvm.exec → c.code = cc → c.maxLocals = maxL → s.vm.findClass y.cls = some m.cls → (∀ w ∈ ws, w.before av.toArray s = true) → meth.locks = false → (∀ q : Nat, s.heap.size ≤ q → A q) → meth.name = y.name → ww G dA A s L f s.heap [] → lv_has ls maxL (lv_args 0 av) →
      (∀ (H : Heap) (locs : List Loc) (pc : Nat) (ls : Array Slot) (v : UInt64) (f2 : Nat → va_E), ww G dA A s L f2 H locs → post v f2 → decode cc pc = .ok (.dreturn, 1) → W p l e rm s m av.toArray below meth c H locs 0 0 Q (F0 m pc ls [.double v])) →
      W p l e rm s m av.toArray below meth c s.heap [] 0 0 Q (F0 m 0 ls [])) : mD l y ws rm G dA av L f post := by
  intro sz
  refine Met.ofW (cc := cc) (maxL := maxL) (ret := (some .double)) hy hwd ?_
  intro p e s m args below meth c s₁ B hml hv
  obtain ⟨rfl, hsz, hP, hK, hD0⟩ := hv
  have hl := lv_entry av (n := maxL) hlen
  rw [lg_entry_eq]
  generalize (lg_sl av ++ List.replicate (maxL - (lg_sl av).length) Slot.unset).toArray = ls at hl ⊢
  subst hsz
  have hD := hD0.self (sz := s.heap.size)
  have hlocks := B.notSynchronized
  exact body p e s m below meth c _ ls _ B.exec B.bytes hml (findClass_of_methodNamed B.named) (atoms_spec (ws := ws) B.pre) hlocks (fun q h => Or.inr h) (name_of_methodNamed B.named B.method).1 ⟨hK, hP, hD, va_S.rf⟩ hl
    (fun H locs pc ls v f2 hw hp hdg => W.dret B.exec B.bytes B.returns (fun t ht hW => ⟨⟨v, f2, rfl, hp, by rw [ht]; exact hw.2.1, va_K.moved hW.alike hw.1, hw.2.2.1⟩, hw.2.2.2.F ht⟩) hw.2.2.2.2.2 hdg hlocks)
def mI (l : Launch) (y : MethodName) (ws : List Cond) (rm : Room) (G : va_G) (dA : Nat → ClassId) (av : List Value) (L : List Nat) (f : Nat → va_E) (post : Int32 → (Nat → va_E) → Prop) : Prop :=
  ∀ sz : Nat, Met l y ws rm (va_Pc av (wPre G dA L f sz)) (va_Qi post (wPost G dA L (va_A (va_pl L f) sz)) (va_A (va_pl L f) sz)) 0 0 (va_A (va_pl L f) sz)
theorem mI_of {rt : FieldType} {post : Int32 → (Nat → va_E) → Prop} (hy : plainName y.cls = true) (hwd : ws = Cond.code y cc maxL (some rt) :: ws') (hlen : (lg_sl av).length ≤ maxL)
    (body : ∀ (p : Program) (e : Env) (s : State) (m : MethodId) (below : List Frame) (meth : Method) (c : Code) (A : Nat → Prop) (ls : Array Slot) (Q : State → Prop), p.tables.exec = Jvm.exec → c.code = cc → c.maxLocals = maxL → s.vm.findClass y.cls = some m.cls → (∀ w ∈ ws, w.before av.toArray s = true) → meth.locks = false → (∀ q : Nat, s.heap.size ≤ q → A q) → meth.name = y.name → ww G dA A s L f s.heap [] → lv_has ls maxL (lv_args 0 av) →
      (∀ (H : Heap) (locs : List Loc) (pc : Nat) (ls : Array Slot) (v : Int32) (f2 : Nat → va_E), ww G dA A s L f2 H locs → post v f2 → narrow rt (.int v) = .int v → decode cc pc = .ok (.ireturn, 1) → W p l e rm s m av.toArray below meth c H locs 0 0 Q (F0 m pc ls [.int v])) →
      W p l e rm s m av.toArray below meth c s.heap [] 0 0 Q (F0 m 0 ls [])) : mI l y ws rm G dA av L f post := by
  intro sz
  refine Met.ofW (cc := cc) (maxL := maxL) (ret := (some rt)) hy hwd ?_
  intro p e s m args below meth c s₁ B hml hv
  obtain ⟨rfl, hsz, hP, hK, hD0⟩ := hv
  have hl := lv_entry av (n := maxL) hlen
  rw [lg_entry_eq]
  generalize (lg_sl av ++ List.replicate (maxL - (lg_sl av).length) Slot.unset).toArray = ls at hl ⊢
  subst hsz
  have hD := hD0.self (sz := s.heap.size)
  have hlocks := B.notSynchronized
  exact body p e s m below meth c _ ls _ B.exec B.bytes hml (findClass_of_methodNamed B.named) (atoms_spec (ws := ws) B.pre) hlocks (fun q h => Or.inr h) (name_of_methodNamed B.named B.method).1 ⟨hK, hP, hD, va_S.rf⟩ hl
    (fun H locs pc ls v f2 hw hp hn hdg => W.zret B.exec B.bytes B.returns hn (fun t ht hW => ⟨⟨v, f2, rfl, hp, by rw [ht]; exact hw.2.1, va_K.moved hW.alike hw.1, hw.2.2.1⟩, hw.2.2.2.F ht⟩) hw.2.2.2.2.2 hdg hlocks)
def mL (l : Launch) (y : MethodName) (ws : List Cond) (rm : Room) (G : va_G) (dA : Nat → ClassId) (av : List Value) (L : List Nat) (f : Nat → va_E) (post : Int64 → (Nat → va_E) → Prop) : Prop :=
  ∀ sz : Nat, Met l y ws rm (va_Pc av (wPre G dA L f sz)) (va_Ql post (wPost G dA L (va_A (va_pl L f) sz)) (va_A (va_pl L f) sz)) 0 0 (va_A (va_pl L f) sz)
theorem mL_of {post : Int64 → (Nat → va_E) → Prop} (hy : plainName y.cls = true) (hwd : ws = Cond.code y cc maxL (some .long) :: ws') (hlen : (lg_sl av).length ≤ maxL)
    (body : ∀ (p : Program) (e : Env) (s : State) (m : MethodId) (below : List Frame) (meth : Method) (c : Code) (A : Nat → Prop) (ls : Array Slot) (Q : State → Prop), p.tables.exec = Jvm.exec → c.code = cc → c.maxLocals = maxL → s.vm.findClass y.cls = some m.cls → (∀ w ∈ ws, w.before av.toArray s = true) → meth.locks = false → (∀ q : Nat, s.heap.size ≤ q → A q) → meth.name = y.name → ww G dA A s L f s.heap [] → lv_has ls maxL (lv_args 0 av) →
      (∀ (H : Heap) (locs : List Loc) (pc : Nat) (ls : Array Slot) (v : Int64) (f2 : Nat → va_E), ww G dA A s L f2 H locs → post v f2 → decode cc pc = .ok (.lreturn, 1) → W p l e rm s m av.toArray below meth c H locs 0 0 Q (F0 m pc ls [.long v])) →
      W p l e rm s m av.toArray below meth c s.heap [] 0 0 Q (F0 m 0 ls [])) : mL l y ws rm G dA av L f post := by
  intro sz
  refine Met.ofW (cc := cc) (maxL := maxL) (ret := (some .long)) hy hwd ?_
  intro p e s m args below meth c s₁ B hml hv
  obtain ⟨rfl, hsz, hP, hK, hD0⟩ := hv
  have hl := lv_entry av (n := maxL) hlen
  rw [lg_entry_eq]
  generalize (lg_sl av ++ List.replicate (maxL - (lg_sl av).length) Slot.unset).toArray = ls at hl ⊢
  subst hsz
  have hD := hD0.self (sz := s.heap.size)
  have hlocks := B.notSynchronized
  exact body p e s m below meth c _ ls _ B.exec B.bytes hml (findClass_of_methodNamed B.named) (atoms_spec (ws := ws) B.pre) hlocks (fun q h => Or.inr h) (name_of_methodNamed B.named B.method).1 ⟨hK, hP, hD, va_S.rf⟩ hl
    (fun H locs pc ls v f2 hw hp hdg => W.lret B.exec B.bytes B.returns (fun t ht hW => ⟨⟨v, f2, rfl, hp, by rw [ht]; exact hw.2.1, va_K.moved hW.alike hw.1, hw.2.2.1⟩, hw.2.2.2.F ht⟩) hw.2.2.2.2.2 hdg hlocks)
def mV (l : Launch) (y : MethodName) (ws : List Cond) (rm : Room) (G : va_G) (dA : Nat → ClassId) (av : List Value) (L : List Nat) (f : Nat → va_E) (post : (Nat → va_E) → Prop) : Prop :=
  ∀ sz : Nat, Met l y ws rm (va_Pc av (wPre G dA L f sz)) (va_Qv post (wPost G dA L (va_A (va_pl L f) sz)) (va_A (va_pl L f) sz)) 0 0 (va_A (va_pl L f) sz)
theorem mV_of {post : (Nat → va_E) → Prop} (hy : plainName y.cls = true) (hwd : ws = Cond.code y cc maxL none :: ws') (hlen : (lg_sl av).length ≤ maxL)
    (body : ∀ (p : Program) (e : Env) (s : State) (m : MethodId) (below : List Frame) (meth : Method) (c : Code) (A : Nat → Prop) (ls : Array Slot) (Q : State → Prop), p.tables.exec = Jvm.exec → c.code = cc → c.maxLocals = maxL → s.vm.findClass y.cls = some m.cls → (∀ w ∈ ws, w.before av.toArray s = true) → meth.locks = false → (∀ q : Nat, s.heap.size ≤ q → A q) → meth.name = y.name → ww G dA A s L f s.heap [] → lv_has ls maxL (lv_args 0 av) →
      (∀ (H : Heap) (locs : List Loc) (pc : Nat) (ls : Array Slot) (f2 : Nat → va_E), ww G dA A s L f2 H locs → post f2 → decode cc pc = .ok (.return_, 1) → W p l e rm s m av.toArray below meth c H locs 0 0 Q (F0 m pc ls [])) →
      W p l e rm s m av.toArray below meth c s.heap [] 0 0 Q (F0 m 0 ls [])) : mV l y ws rm G dA av L f post := by
  intro sz
  refine Met.ofW (cc := cc) (maxL := maxL) (ret := none) hy hwd ?_
  intro p e s m args below meth c s₁ B hml hv
  obtain ⟨rfl, hsz, hP, hK, hD0⟩ := hv
  have hl := lv_entry av (n := maxL) hlen
  rw [lg_entry_eq]
  generalize (lg_sl av ++ List.replicate (maxL - (lg_sl av).length) Slot.unset).toArray = ls at hl ⊢
  subst hsz
  have hD := hD0.self (sz := s.heap.size)
  have hlocks := B.notSynchronized
  exact body p e s m below meth c _ ls _ B.exec B.bytes hml (findClass_of_methodNamed B.named) (atoms_spec (ws := ws) B.pre) hlocks (fun q h => Or.inr h) (name_of_methodNamed B.named B.method).1 ⟨hK, hP, hD, va_S.rf⟩ hl
    (fun H locs pc ls f2 hw hp hdg => W.vret B.exec B.bytes B.returns (fun t ht hW => ⟨⟨f2, rfl, hp, by rw [ht]; exact hw.2.1, va_K.moved hW.alike hw.1, hw.2.2.1⟩, hw.2.2.2.F ht⟩) hw.2.2.2.2.2 hdg hlocks)
end WCON
section WEND
variable {p : Program} {l : Launch} {e : Env} {R : Room} {s : State} {m : MethodId} {args : Array Value} {below : List Frame} {meth : Method} {c : Code} {H : Heap} {locs : List Loc} {cells slots : Nat} {Q : State → Prop}
variable {cc : ByteArray} {pc : Nat} {ls : Array Slot} {rest : List Value} {G : va_G} {dA : Nat → ClassId} {A : Nat → Prop} {L : List Nat} {f : Nat → va_E}
variable {y : MethodName} {bytes : ByteArray} {maxL nL n index : Nat} {ret : Option FieldType} {ws : List Cond} {rm : Room} {Ts : List Cond} {own C : String} {b : Nat} {As st0 : List Value}
theorem kV_D {post : UInt64 → (Nat → va_E) → Prop} (S : CallFix p m c cc nL s args Ts own) (hM : mD l y ws rm G dA (.ref b :: As) L f post) (cw : CallW R s args own C index y bytes maxL ret ws rm 0 0 n) (hw : ww G dA A s L f H locs) (hA : ∀ q : Nat, s.heap.size ≤ q → A q) (hbL : b ∈ L) {ci : Nat} {fs : List Value} {T : u_T} {N : Nat} (hfb : f b = .inr (ci, fs)) (hc : vwCl[ci]? = some (C, T, N)) (hn : As.length = n) (hsize : ls.size = nL) (hst : st0 = As.reverse ++ .ref b :: rest) (hW : (rest.map fun v => v.category).sum ≤ 8) (hdg : decode cc pc = .ok (.invokevirtual index, 3)) (hcs : cells ≤ R.cells ∧ slots ≤ R.slots)
    (kk : ∀ (r : UInt64) (f2 : Nat → va_E) (H1 : Heap) (locs1 : List Loc), post r f2 → ww G dA A s L f2 H1 locs1 → W p l e R s m args below meth c H1 locs1 cells slots Q (F0 m (pc + 3) ls (.double r :: rest))) : W p l e R s m args below meth c H locs cells slots Q (F0 m pc ls st0) := by
  have hF := hw.free hA
  obtain ⟨q, hq⟩ := pl_get (f := f) hbL
  rw [hfb] at hq
  have hrecv := va_recv hw.1 hw.2.1 hc hq
  refine va_calld (va_runV (As := As) (rest := rest) S (hM H.size) cw ⟨wPre.blind, hrecv, fun U hU hW => ⟨rfl, by rw [hU], by rw [hU]; exact hw.2.1, va_K.moved hW.alike hw.1, hw.2.2.1.weaken (fun _ _ _ _ => trivial)⟩⟩ rfl hn hsize hst (lv_room hW) hdg hcs) hw.2.2.2 (fun q _ h => hF q h) hF (fun r f2 t H1 locs1 ht hvm hp hB _ _ hS => kk r f2 H1 locs1 hp ⟨hw.1, ?_, hB.2.2.weaken (fun _ q _ h => hF q.1 h), hS⟩)
  rw [← ht]; exact hB.1
theorem kS_D {post : UInt64 → (Nat → va_E) → Prop} (S : CallFix p m c cc nL s args Ts own) (hM : mD l y ws rm G dA As L f post) (cw : CallB R s args own index y bytes maxL ret ws rm 0 0 n ∧ (Cond.static y).before args s = true) (hw : ww G dA A s L f H locs) (hA : ∀ q : Nat, s.heap.size ≤ q → A q) (hn : As.length = n) (hsize : ls.size = nL) (hst : st0 = As.reverse ++ rest) (hW : (rest.map fun v => v.category).sum ≤ 8) (hdg : decode cc pc = .ok (.invokestatic index, 3)) (hcs : cells ≤ R.cells ∧ slots ≤ R.slots)
    (kk : ∀ (r : UInt64) (f2 : Nat → va_E) (H1 : Heap) (locs1 : List Loc), post r f2 → ww G dA A s L f2 H1 locs1 → W p l e R s m args below meth c H1 locs1 cells slots Q (F0 m (pc + 3) ls (.double r :: rest))) : W p l e R s m args below meth c H locs cells slots Q (F0 m pc ls st0) := by
  have hF := hw.free hA
  refine va_calld (va_runS (As := As) (rest := rest) S (hM H.size) cw ⟨wPre.blind, fun U hU hW => ⟨rfl, by rw [hU], by rw [hU]; exact hw.2.1, va_K.moved hW.alike hw.1, hw.2.2.1.weaken (fun _ _ _ _ => trivial)⟩⟩ rfl hn hsize hst (lv_room hW) hdg hcs) hw.2.2.2 (fun q _ h => hF q h) hF (fun r f2 t H1 locs1 ht hvm hp hB _ _ hS => kk r f2 H1 locs1 hp ⟨hw.1, ?_, hB.2.2.weaken (fun _ q _ h => hF q.1 h), hS⟩)
  rw [← ht]; exact hB.1
theorem kV_I {post : Int32 → (Nat → va_E) → Prop} (S : CallFix p m c cc nL s args Ts own) (hM : mI l y ws rm G dA (.ref b :: As) L f post) (cw : CallW R s args own C index y bytes maxL ret ws rm 0 0 n) (hw : ww G dA A s L f H locs) (hA : ∀ q : Nat, s.heap.size ≤ q → A q) (hbL : b ∈ L) {ci : Nat} {fs : List Value} {T : u_T} {N : Nat} (hfb : f b = .inr (ci, fs)) (hc : vwCl[ci]? = some (C, T, N)) (hn : As.length = n) (hsize : ls.size = nL) (hst : st0 = As.reverse ++ .ref b :: rest) (hW : (rest.map fun v => v.category).sum ≤ 8) (hdg : decode cc pc = .ok (.invokevirtual index, 3)) (hcs : cells ≤ R.cells ∧ slots ≤ R.slots)
    (kk : ∀ (r : Int32) (f2 : Nat → va_E) (H1 : Heap) (locs1 : List Loc), post r f2 → ww G dA A s L f2 H1 locs1 → W p l e R s m args below meth c H1 locs1 cells slots Q (F0 m (pc + 3) ls (.int r :: rest))) : W p l e R s m args below meth c H locs cells slots Q (F0 m pc ls st0) := by
  have hF := hw.free hA
  obtain ⟨q, hq⟩ := pl_get (f := f) hbL
  rw [hfb] at hq
  have hrecv := va_recv hw.1 hw.2.1 hc hq
  refine va_calli (va_runV (As := As) (rest := rest) S (hM H.size) cw ⟨wPre.blind, hrecv, fun U hU hW => ⟨rfl, by rw [hU], by rw [hU]; exact hw.2.1, va_K.moved hW.alike hw.1, hw.2.2.1.weaken (fun _ _ _ _ => trivial)⟩⟩ rfl hn hsize hst (lv_room hW) hdg hcs) hw.2.2.2 (fun q _ h => hF q h) hF (fun r f2 t H1 locs1 ht hvm hp hB _ _ hS => kk r f2 H1 locs1 hp ⟨hw.1, ?_, hB.2.2.weaken (fun _ q _ h => hF q.1 h), hS⟩)
  rw [← ht]; exact hB.1
theorem kS_I {post : Int32 → (Nat → va_E) → Prop} (S : CallFix p m c cc nL s args Ts own) (hM : mI l y ws rm G dA As L f post) (cw : CallB R s args own index y bytes maxL ret ws rm 0 0 n ∧ (Cond.static y).before args s = true) (hw : ww G dA A s L f H locs) (hA : ∀ q : Nat, s.heap.size ≤ q → A q) (hn : As.length = n) (hsize : ls.size = nL) (hst : st0 = As.reverse ++ rest) (hW : (rest.map fun v => v.category).sum ≤ 8) (hdg : decode cc pc = .ok (.invokestatic index, 3)) (hcs : cells ≤ R.cells ∧ slots ≤ R.slots)
    (kk : ∀ (r : Int32) (f2 : Nat → va_E) (H1 : Heap) (locs1 : List Loc), post r f2 → ww G dA A s L f2 H1 locs1 → W p l e R s m args below meth c H1 locs1 cells slots Q (F0 m (pc + 3) ls (.int r :: rest))) : W p l e R s m args below meth c H locs cells slots Q (F0 m pc ls st0) := by
  have hF := hw.free hA
  refine va_calli (va_runS (As := As) (rest := rest) S (hM H.size) cw ⟨wPre.blind, fun U hU hW => ⟨rfl, by rw [hU], by rw [hU]; exact hw.2.1, va_K.moved hW.alike hw.1, hw.2.2.1.weaken (fun _ _ _ _ => trivial)⟩⟩ rfl hn hsize hst (lv_room hW) hdg hcs) hw.2.2.2 (fun q _ h => hF q h) hF (fun r f2 t H1 locs1 ht hvm hp hB _ _ hS => kk r f2 H1 locs1 hp ⟨hw.1, ?_, hB.2.2.weaken (fun _ q _ h => hF q.1 h), hS⟩)
  rw [← ht]; exact hB.1
theorem kV_L {post : Int64 → (Nat → va_E) → Prop} (S : CallFix p m c cc nL s args Ts own) (hM : mL l y ws rm G dA (.ref b :: As) L f post) (cw : CallW R s args own C index y bytes maxL ret ws rm 0 0 n) (hw : ww G dA A s L f H locs) (hA : ∀ q : Nat, s.heap.size ≤ q → A q) (hbL : b ∈ L) {ci : Nat} {fs : List Value} {T : u_T} {N : Nat} (hfb : f b = .inr (ci, fs)) (hc : vwCl[ci]? = some (C, T, N)) (hn : As.length = n) (hsize : ls.size = nL) (hst : st0 = As.reverse ++ .ref b :: rest) (hW : (rest.map fun v => v.category).sum ≤ 8) (hdg : decode cc pc = .ok (.invokevirtual index, 3)) (hcs : cells ≤ R.cells ∧ slots ≤ R.slots)
    (kk : ∀ (r : Int64) (f2 : Nat → va_E) (H1 : Heap) (locs1 : List Loc), post r f2 → ww G dA A s L f2 H1 locs1 → W p l e R s m args below meth c H1 locs1 cells slots Q (F0 m (pc + 3) ls (.long r :: rest))) : W p l e R s m args below meth c H locs cells slots Q (F0 m pc ls st0) := by
  have hF := hw.free hA
  obtain ⟨q, hq⟩ := pl_get (f := f) hbL
  rw [hfb] at hq
  have hrecv := va_recv hw.1 hw.2.1 hc hq
  refine va_calll (va_runV (As := As) (rest := rest) S (hM H.size) cw ⟨wPre.blind, hrecv, fun U hU hW => ⟨rfl, by rw [hU], by rw [hU]; exact hw.2.1, va_K.moved hW.alike hw.1, hw.2.2.1.weaken (fun _ _ _ _ => trivial)⟩⟩ rfl hn hsize hst (lv_room hW) hdg hcs) hw.2.2.2 (fun q _ h => hF q h) hF (fun r f2 t H1 locs1 ht hvm hp hB _ _ hS => kk r f2 H1 locs1 hp ⟨hw.1, ?_, hB.2.2.weaken (fun _ q _ h => hF q.1 h), hS⟩)
  rw [← ht]; exact hB.1
theorem kS_L {post : Int64 → (Nat → va_E) → Prop} (S : CallFix p m c cc nL s args Ts own) (hM : mL l y ws rm G dA As L f post) (cw : CallB R s args own index y bytes maxL ret ws rm 0 0 n ∧ (Cond.static y).before args s = true) (hw : ww G dA A s L f H locs) (hA : ∀ q : Nat, s.heap.size ≤ q → A q) (hn : As.length = n) (hsize : ls.size = nL) (hst : st0 = As.reverse ++ rest) (hW : (rest.map fun v => v.category).sum ≤ 8) (hdg : decode cc pc = .ok (.invokestatic index, 3)) (hcs : cells ≤ R.cells ∧ slots ≤ R.slots)
    (kk : ∀ (r : Int64) (f2 : Nat → va_E) (H1 : Heap) (locs1 : List Loc), post r f2 → ww G dA A s L f2 H1 locs1 → W p l e R s m args below meth c H1 locs1 cells slots Q (F0 m (pc + 3) ls (.long r :: rest))) : W p l e R s m args below meth c H locs cells slots Q (F0 m pc ls st0) := by
  have hF := hw.free hA
  refine va_calll (va_runS (As := As) (rest := rest) S (hM H.size) cw ⟨wPre.blind, fun U hU hW => ⟨rfl, by rw [hU], by rw [hU]; exact hw.2.1, va_K.moved hW.alike hw.1, hw.2.2.1.weaken (fun _ _ _ _ => trivial)⟩⟩ rfl hn hsize hst (lv_room hW) hdg hcs) hw.2.2.2 (fun q _ h => hF q h) hF (fun r f2 t H1 locs1 ht hvm hp hB _ _ hS => kk r f2 H1 locs1 hp ⟨hw.1, ?_, hB.2.2.weaken (fun _ q _ h => hF q.1 h), hS⟩)
  rw [← ht]; exact hB.1
theorem kV_V {post : (Nat → va_E) → Prop} (S : CallFix p m c cc nL s args Ts own) (hM : mV l y ws rm G dA (.ref b :: As) L f post) (cw : CallW R s args own C index y bytes maxL ret ws rm 0 0 n) (hw : ww G dA A s L f H locs) (hA : ∀ q : Nat, s.heap.size ≤ q → A q) (hbL : b ∈ L) {ci : Nat} {fs : List Value} {T : u_T} {N : Nat} (hfb : f b = .inr (ci, fs)) (hc : vwCl[ci]? = some (C, T, N)) (hn : As.length = n) (hsize : ls.size = nL) (hst : st0 = As.reverse ++ .ref b :: rest) (hW : (rest.map fun v => v.category).sum ≤ 8) (hdg : decode cc pc = .ok (.invokevirtual index, 3)) (hcs : cells ≤ R.cells ∧ slots ≤ R.slots)
    (kk : ∀ (f2 : Nat → va_E) (H1 : Heap) (locs1 : List Loc), post f2 → ww G dA A s L f2 H1 locs1 → W p l e R s m args below meth c H1 locs1 cells slots Q (F0 m (pc + 3) ls (rest))) : W p l e R s m args below meth c H locs cells slots Q (F0 m pc ls st0) := by
  have hF := hw.free hA
  obtain ⟨q, hq⟩ := pl_get (f := f) hbL
  rw [hfb] at hq
  have hrecv := va_recv hw.1 hw.2.1 hc hq
  refine va_callv (va_runV (As := As) (rest := rest) S (hM H.size) cw ⟨wPre.blind, hrecv, fun U hU hW => ⟨rfl, by rw [hU], by rw [hU]; exact hw.2.1, va_K.moved hW.alike hw.1, hw.2.2.1.weaken (fun _ _ _ _ => trivial)⟩⟩ rfl hn hsize hst (lv_room hW) hdg hcs) hw.2.2.2 (fun q _ h => hF q h) hF (fun f2 t H1 locs1 ht hvm hp hB _ _ hS => kk f2 H1 locs1 hp ⟨hw.1, ?_, hB.2.2.weaken (fun _ q _ h => hF q.1 h), hS⟩)
  rw [← ht]; exact hB.1
theorem kS_V {post : (Nat → va_E) → Prop} (S : CallFix p m c cc nL s args Ts own) (hM : mV l y ws rm G dA As L f post) (cw : CallB R s args own index y bytes maxL ret ws rm 0 0 n ∧ (Cond.static y).before args s = true) (hw : ww G dA A s L f H locs) (hA : ∀ q : Nat, s.heap.size ≤ q → A q) (hn : As.length = n) (hsize : ls.size = nL) (hst : st0 = As.reverse ++ rest) (hW : (rest.map fun v => v.category).sum ≤ 8) (hdg : decode cc pc = .ok (.invokestatic index, 3)) (hcs : cells ≤ R.cells ∧ slots ≤ R.slots)
    (kk : ∀ (f2 : Nat → va_E) (H1 : Heap) (locs1 : List Loc), post f2 → ww G dA A s L f2 H1 locs1 → W p l e R s m args below meth c H1 locs1 cells slots Q (F0 m (pc + 3) ls (rest))) : W p l e R s m args below meth c H locs cells slots Q (F0 m pc ls st0) := by
  have hF := hw.free hA
  refine va_callv (va_runS (As := As) (rest := rest) S (hM H.size) cw ⟨wPre.blind, fun U hU hW => ⟨rfl, by rw [hU], by rw [hU]; exact hw.2.1, va_K.moved hW.alike hw.1, hw.2.2.1.weaken (fun _ _ _ _ => trivial)⟩⟩ rfl hn hsize hst (lv_room hW) hdg hcs) hw.2.2.2 (fun q _ h => hF q h) hF (fun f2 t H1 locs1 ht hvm hp hB _ _ hS => kk f2 H1 locs1 hp ⟨hw.1, ?_, hB.2.2.weaken (fun _ q _ h => hF q.1 h), hS⟩)
  rw [← ht]; exact hB.1
end WEND
end
section
/-! ===== the pure words of the promises ===== -/
def sp_speed (a b w : UInt64) : UInt64 := FP.dadd a (FP.dmul b w)
def sp_bal (kel damp : UInt64) : UInt64 := FP.dmul (FP.dmul 4600427019358961664 damp) (FP.dsub FP.dconst1 (FP.ddiv (FP.dsub kel 4643510282981736448) 4643211215818981376))
def sp_cut (w : UInt64) : UInt64 := if FP.dcmp w 4599301119452119040 = some .lt then w else 4599301119452119040
def sp_shr (w : UInt64) : UInt64 := FP.dmul 4598175219545276416 (FP.dsub 4599301119452119040 (sp_cut w))
def sumD (g : Nat → UInt64) : Nat → UInt64
  | 0 => FP.dconst0
  | i + 1 => FP.dadd (sumD g i) (g i)
def maxD (g : Nat → UInt64) : Nat → UInt64
  | 0 => FP.dconst0
  | i + 1 => if FP.dcmp (g i) (maxD g i) = some .gt then g i else maxD g i
def sp_mean (g : Nat → UInt64) (n : Nat) : UInt64 := FP.ddiv (sumD g n) (FP.i2d (nI n))
def sp_damp1 (damp vent water : UInt64) : UInt64 := FP.dadd damp (FP.dmul (FP.ddiv water 4679240012837945344) (FP.dsub FP.dconst1 vent))
def sp_lo (x : UInt64) : UInt64 := if FP.dcmp x FP.dconst0 = some .lt then FP.dconst0 else x
def sp_hi (x : UInt64) : UInt64 := if FP.dcmp x FP.dconst1 = some .gt then FP.dconst1 else x
def sp_damp (damp vent water : UInt64) : UInt64 := sp_hi (sp_lo (sp_damp1 damp vent water))
def sp_face (d wet speed bal : UInt64) : UInt64 := FP.ddiv (FP.dmul speed (FP.dsub wet bal)) (FP.dmul 4620693217682128896 d)
def sp_slope (ka kb d x y : UInt64) : UInt64 := FP.ddiv (FP.dmul (sp_speed ka kb (FP.ddiv (FP.dadd x y) 4611686018427387904)) (FP.dsub x y)) (FP.dmul d d)
def sp_mshr (g : Nat → UInt64) (n : Nat) : UInt64 := FP.ddiv (sumD (fun j => sp_shr (g j)) n) (FP.i2d (nI n))
def sp_stress (g : Nat → UInt64) (n i : Nat) : UInt64 := FP.dsub (sp_shr (g i)) (sp_mshr g n)
def sp_size (x : UInt64) : UInt64 := if FP.dcmp x FP.dconst0 = some .lt then FP.dneg x else x
def sp_load (g : Nat → UInt64) (n : Nat) : UInt64 := maxD (fun j => sp_size (sp_stress g n j)) n
def b2i (b : Bool) : Int32 := if b then 1 else 0
def sp_ref (spd dep ka kb w : UInt64) : Bool := decide (FP.dcmp (FP.ddiv spd (FP.dmul 4620693217682128896 dep)) 4598175219545276416 = some .gt) || decide (FP.dcmp (FP.ddiv (sp_speed ka kb w) (FP.dmul dep dep)) 4598175219545276416 = some .gt)
def sp_keep (lim kept : Int32) (ld load : UInt64) (hour : Int32) : Int32 := if lim ≠ 0 ∧ kept = -1 ∧ FP.dcmp ld load = some .gt then hour else kept
def fillTo (x : UInt64) (g : Nat → UInt64) (i : Nat) : Nat → UInt64 := fun j => if j < i then x else g j
theorem fillTo_s (x : UInt64) (g : Nat → UInt64) (i : Nat) : vf_upd (fillTo x g i) i x = fillTo x g (i + 1) := by
  funext j
  by_cases h : j = i
  · subst h; simp [vf_upd, fillTo]
  · simp only [vf_upd, fillTo, if_neg h]
    by_cases h2 : j < i
    · rw [if_pos h2, if_pos (by omega)]
    · rw [if_neg h2, if_neg (by omega)]
theorem fillTo_0 (x : UInt64) (g : Nat → UInt64) : fillTo x g 0 = g := rfl
/-- an hour's flows: behind the layer j -/
def sp_fl (ka kb dep h : UInt64) (g : Nat → UInt64) (last j : Nat) : UInt64 := if j < last then sp_slope ka kb dep (g j) (g (j + 1)) else h
def sp_gain (ka kb dep g0 h : UInt64) (g : Nat → UInt64) (last : Nat) : Nat → UInt64
  | 0 => FP.dneg g0
  | j + 1 => sp_fl ka kb dep h g last j
def sp_new (ka kb dep g0 h : UInt64) (g : Nat → UInt64) (last j : Nat) : UInt64 := FP.dsub (FP.dadd (g j) (sp_gain ka kb dep g0 h g last j)) (sp_fl ka kb dep h g last j)
def newTo (ka kb dep g0 h : UInt64) (g : Nat → UInt64) (last i : Nat) : Nat → UInt64 := fun j => if j < i then sp_new ka kb dep g0 h g last j else g j
theorem newTo_s (ka kb dep g0 h : UInt64) (g : Nat → UInt64) (last i : Nat) : vf_upd (newTo ka kb dep g0 h g last i) i (sp_new ka kb dep g0 h g last i) = newTo ka kb dep g0 h g last (i + 1) := by
  funext j
  by_cases q : j = i
  · subst q; simp [vf_upd, newTo]
  · simp only [vf_upd, newTo, if_neg q]
    by_cases h2 : j < i
    · rw [if_pos h2, if_pos (by omega)]
    · rw [if_neg h2, if_neg (by omega)]
theorem newTo_at (ka kb dep g0 h : UInt64) (g : Nat → UInt64) (last i j : Nat) (q : i ≤ j) : newTo ka kb dep g0 h g last i j = g j := by simp only [newTo, if_neg (Nat.not_lt.mpr q)]
theorem va_up_id {f : Nat → va_E} {a : Nat} {e : va_E} (h : f a = e) : va_up f a e = f := by
  funext z
  by_cases q : z = a
  · subst q; rw [va_up_self]; exact h.symm
  · exact va_up_ne _ _ q
theorem cmp_ge {o : Option Ordering} (h : 0 ≤ Op.cmpValue o .g) : ¬ o = some .lt := by
  intro q; subst q; exact absurd h (by decide)
theorem cmp_nge {o : Option Ordering} (h : ¬ 0 ≤ Op.cmpValue o .g) : o = some .lt := by
  rcases o with _ | o
  · exact absurd (by decide) h
  · cases o
    · rfl
    · exact absurd (by decide) h
    · exact absurd (by decide) h
theorem cmp_le {o : Option Ordering} (h : Op.cmpValue o .l ≤ 0) : ¬ o = some .gt := by
  intro q; subst q; exact absurd h (by decide)
theorem cmp_nle {o : Option Ordering} (h : ¬ Op.cmpValue o .l ≤ 0) : o = some .gt := by
  rcases o with _ | o
  · exact absurd (by decide) h
  · cases o
    · exact absurd (by decide) h
    · exact absurd (by decide) h
    · rfl
theorem cmp_gt {o : Option Ordering} (h : 0 < Op.cmpValue o .l) : o = some .gt := cmp_nle (fun q => by rw [Int32.lt_iff_toInt_lt] at h; rw [Int32.le_iff_toInt_le] at q; omega)
theorem cmp_ngt {o : Option Ordering} (h : ¬ 0 < Op.cmpValue o .l) : ¬ o = some .gt := by
  intro q; subst q; exact absurd (by decide) h
end
section
set_option maxHeartbeats 4000000 in
set_option maxRecDepth 100000 in
theorem c_X2_speedAt (l : Launch) (G : va_G) (dA : Nat → ClassId) (L : List Nat) (f : Nat → va_E) (a : Nat) (ka kb w : UInt64) (hLa : a ∈ L) (hfa : f a = .inr (3, [.double ka, .double kb]))  (n9 : vf_n64 (FP.dmul kb w)) (n10 : vf_n64 (FP.dadd ka (FP.dmul kb w))) : mD l yX2_speedAt wsX2_speedAt ({ frames := 0, cells := 0, slots := 0, locals := 0 }) G dA [.ref a, .double w] L f (fun r f2 => r = sp_speed ka kb w ∧ f2 = f) := by
  refine mD_of (cc := cX2_speedAt) (maxL := 3) (by decide) rfl (Nat.le_of_ble_eq_true rfl) ?_
  intro p e s m below meth c A ls Q hx hb hml hown hts hlocks hA hin0 hw hl hret
  have hown : s.vm.findClass RX2 = some m.cls := hown
  have hl : lv_has ls 3 [(0, .ref a), (1, .double w)] := hl
  have hi2 : ∀ w ∈ u_ws RX2 TX2 2, w ∈ wsX2_speedAt := by decide +kernel
  refine lv_aload_n hx hb dX2_speedAt_0 rfl (lv_at hl 0 rfl) ?_
  refine wg (C := RX2) (T := TX2) (N := 2) hx hb hts hi2 hown hw hLa hfa rfl 0 (by decide) (hts (.fieldLink RX2 7 "LayerMoisture$Kind" "a" "D") (by decide +kernel)) (fun _ h9 => h9) (v := .double ka) rfl dX2_speedAt_1 ?_
  refine lv_aload_n hx hb dX2_speedAt_4 rfl (lv_at hl 0 rfl) ?_
  refine wg (C := RX2) (T := TX2) (N := 2) hx hb hts hi2 hown hw hLa hfa rfl 1 (by decide) (hts (.fieldLink RX2 13 "LayerMoisture$Kind" "b" "D") (by decide +kernel)) (fun _ h9 => h9) (v := .double kb) rfl dX2_speedAt_5 ?_
  refine lv_dload_n hx hb dX2_speedAt_8 rfl (lv_at hl 1 rfl) ?_
  refine lv_dmul hx hb dX2_speedAt_9 n9 ?_
  refine lv_dadd hx hb dX2_speedAt_10 n10 ?_
  exact hret _ _ _ _ _ _ hw ⟨rfl, rfl⟩ dX2_speedAt_11

set_option maxHeartbeats 4000000 in
set_option maxRecDepth 100000 in
theorem c_X0_balanceNow (l : Launch) (G : va_G) (dA : Nat → ClassId) (L : List Nat) (f : Nat → va_E) (a : Nat) (kel damp spd vent : UInt64) (hLa : a ∈ L) (hfa : f a = .inr (1, [.double kel, .double damp, .double spd, .double vent]))  (n7 : vf_n64 (FP.dmul 4600427019358961664 damp)) (n16 : vf_n64 (FP.dsub kel 4643510282981736448)) (n20 : vf_n64 (FP.ddiv (FP.dsub kel 4643510282981736448) 4643211215818981376)) (n21 : vf_n64 (FP.dsub FP.dconst1 (FP.ddiv (FP.dsub kel 4643510282981736448) 4643211215818981376))) (n22 : vf_n64 (FP.dmul (FP.dmul 4600427019358961664 damp) (FP.dsub FP.dconst1 (FP.ddiv (FP.dsub kel 4643510282981736448) 4643211215818981376)))) : mD l yX0_balanceNow wsX0_balanceNow ({ frames := 0, cells := 0, slots := 0, locals := 0 }) G dA [.ref a] L f (fun r f2 => r = sp_bal kel damp ∧ f2 = f) := by
  refine mD_of (cc := cX0_balanceNow) (maxL := 1) (by decide) rfl (Nat.le_of_ble_eq_true rfl) ?_
  intro p e s m below meth c A ls Q hx hb hml hown hts hlocks hA hin0 hw hl hret
  have hown : s.vm.findClass RX0 = some m.cls := hown
  have hl : lv_has ls 1 [(0, .ref a)] := hl
  have hi0 : ∀ w ∈ u_ws RX0 TX0 4, w ∈ wsX0_balanceNow := by decide +kernel
  refine lv_ldc2d (v := 4600427019358961664) hx hb hown (hts (.constantDouble RX0 26 (4600427019358961664)) (by decide +kernel)) dX0_balanceNow_0 ?_
  refine lv_aload_n hx hb dX0_balanceNow_3 rfl (lv_at hl 0 rfl) ?_
  refine wg (C := RX0) (T := TX0) (N := 4) hx hb hts hi0 hown hw hLa hfa rfl 1 (by decide) (hts (.fieldLink RX0 17 "LayerMoisture$Air" "damp" "D") (by decide +kernel)) (fun _ h9 => h9) (v := .double damp) rfl dX0_balanceNow_4 ?_
  refine lv_dmul hx hb dX0_balanceNow_7 n7 ?_
  refine lv_dconst1 hx hb dX0_balanceNow_8 ?_
  refine lv_aload_n hx hb dX0_balanceNow_9 rfl (lv_at hl 0 rfl) ?_
  refine wg (C := RX0) (T := TX0) (N := 4) hx hb hts hi0 hown hw hLa hfa rfl 0 (by decide) (hts (.fieldLink RX0 9 "LayerMoisture$Air" "kelvin" "D") (by decide +kernel)) (fun _ h9 => h9) (v := .double kel) rfl dX0_balanceNow_10 ?_
  refine lv_ldc2d (v := 4643510282981736448) hx hb hown (hts (.constantDouble RX0 28 (4643510282981736448)) (by decide +kernel)) dX0_balanceNow_13 ?_
  refine lv_dsub hx hb dX0_balanceNow_16 n16 ?_
  refine lv_ldc2d (v := 4643211215818981376) hx hb hown (hts (.constantDouble RX0 30 (4643211215818981376)) (by decide +kernel)) dX0_balanceNow_17 ?_
  refine lv_ddiv hx hb dX0_balanceNow_20 n20 ?_
  refine lv_dsub hx hb dX0_balanceNow_21 n21 ?_
  refine lv_dmul hx hb dX0_balanceNow_22 n22 ?_
  exact hret _ _ _ _ _ _ hw ⟨rfl, rfl⟩ dX0_balanceNow_23

set_option maxHeartbeats 4000000 in
set_option maxRecDepth 100000 in
theorem c_X0_takeUp (l : Launch) (G : va_G) (dA : Nat → ClassId) (L : List Nat) (f : Nat → va_E) (a : Nat) (kel damp spd vent water : UInt64) (hLa : a ∈ L) (hfa : f a = .inr (1, [.double kel, .double damp, .double spd, .double vent]))  (n8 : vf_n64 (FP.ddiv water 4679240012837945344)) (n14 : vf_n64 (FP.dsub FP.dconst1 vent)) (n15 : vf_n64 (FP.dmul (FP.ddiv water 4679240012837945344) (FP.dsub FP.dconst1 vent))) (n16 : vf_n64 (FP.dadd damp (FP.dmul (FP.ddiv water 4679240012837945344) (FP.dsub FP.dconst1 vent)))) : mV l yX0_takeUp wsX0_takeUp ({ frames := 0, cells := 0, slots := 0, locals := 0 }) G dA [.ref a, .double water] L f (fun f2 => f2 = va_up f a (.inr (1, [.double kel, .double (sp_damp damp vent water), .double spd, .double vent]))) := by
  refine mV_of (cc := cX0_takeUp) (maxL := 5) (by decide) rfl (Nat.le_of_ble_eq_true rfl) ?_
  intro p e s m below meth c A ls Q hx hb hml hown hts hlocks hA hin0 hw hl hret
  have hown : s.vm.findClass RX0 = some m.cls := hown
  have hl : lv_has ls 5 [(0, .ref a), (1, .double water)] := hl
  have hi0 : ∀ w ∈ u_ws RX0 TX0 4, w ∈ wsX0_takeUp := by decide +kernel
  refine lv_aload_n hx hb dX0_takeUp_0 rfl (lv_at hl 0 rfl) ?_
  refine wg (C := RX0) (T := TX0) (N := 4) hx hb hts hi0 hown hw hLa hfa rfl 1 (by decide) (hts (.fieldLink RX0 17 "LayerMoisture$Air" "damp" "D") (by decide +kernel)) (fun _ h9 => h9) (v := .double damp) rfl dX0_takeUp_1 ?_
  refine lv_dload_n hx hb dX0_takeUp_4 rfl (lv_at hl 1 rfl) ?_
  refine lv_ldc2d (v := 4679240012837945344) hx hb hown (hts (.constantDouble RX0 32 (4679240012837945344)) (by decide +kernel)) dX0_takeUp_5 ?_
  refine lv_ddiv hx hb dX0_takeUp_8 n8 ?_
  refine lv_dconst1 hx hb dX0_takeUp_9 ?_
  refine lv_aload_n hx hb dX0_takeUp_10 rfl (lv_at hl 0 rfl) ?_
  refine wg (C := RX0) (T := TX0) (N := 4) hx hb hts hi0 hown hw hLa hfa rfl 3 (by decide) (hts (.fieldLink RX0 23 "LayerMoisture$Air" "ventShare" "D") (by decide +kernel)) (fun _ h9 => h9) (v := .double vent) rfl dX0_takeUp_11 ?_
  refine lv_dsub hx hb dX0_takeUp_14 n14 ?_
  refine lv_dmul hx hb dX0_takeUp_15 n15 ?_
  refine lv_dadd hx hb dX0_takeUp_16 n16 ?_
  refine lv_dstore_n (lv' := [(3, .double (FP.dadd damp (FP.dmul (FP.ddiv water 4679240012837945344) (FP.dsub FP.dconst1 vent)))), (0, .ref a), (1, .double water)]) hx hb dX0_takeUp_17 rfl hl (by decide) rfl (fun ls hl => ?_)
  refine lv_dload_n hx hb dX0_takeUp_18 rfl (lv_at hl 0 rfl) ?_
  refine lv_dconst0 hx hb dX0_takeUp_19 ?_
  refine lv_dcmp hx hb dX0_takeUp_20 ?_
  refine lv_if_ge (tgt := 26) hx hb dX0_takeUp_21 (by decide) (fun c21 => ?_) (fun c21 => ?_)
  · have q21 := cmp_ge c21
    refine lv_aload_n hx hb dX0_takeUp_26 rfl (lv_at hl 1 rfl) ?_
    refine lv_dload_n hx hb dX0_takeUp_27 rfl (lv_at hl 0 rfl) ?_
    refine lv_dconst1 hx hb dX0_takeUp_28 ?_
    refine lv_dcmp hx hb dX0_takeUp_29 ?_
    refine lv_if_le (tgt := 37) hx hb dX0_takeUp_30 (by decide) (fun c30 => ?_) (fun c30 => ?_)
    · have q30 := cmp_le c30
      refine lv_dload_n hx hb dX0_takeUp_37 rfl (lv_at hl 0 rfl) ?_
      refine wp_ (C := RX0) (T := TX0) (N := 4) hx hb hts hi0 tyX0 tyX0_ok nmX0 hown hw hLa hfa rfl 1 (by decide) (hts (.fieldLink RX0 17 "LayerMoisture$Air" "damp" "D") (by decide +kernel)) (fun _ h9 => h9) rfl (ty := .double) (v := .double (FP.dadd damp (FP.dmul (FP.ddiv water 4679240012837945344) (FP.dsub FP.dconst1 vent)))) (by decide +kernel) rfl rfl (Nat.le_of_ble_eq_true rfl) dX0_takeUp_38 (fun H locs hw => ?_)
      obtain ⟨f1, ef1⟩ : ∃ z : Nat → va_E, z = va_up f a (.inr (1, [.double kel, .double (FP.dadd damp (FP.dmul (FP.ddiv water 4679240012837945344) (FP.dsub FP.dconst1 vent))), .double spd, .double vent])) := ⟨_, rfl⟩
      have hw : ww G dA A s L f1 H locs := by rw [ef1]; exact hw
      have h2 : f1 a = .inr (1, [.double kel, .double (FP.dadd damp (FP.dmul (FP.ddiv water 4679240012837945344) (FP.dsub FP.dconst1 vent))), .double spd, .double vent]) := by rw [ef1]; exact va_up_self _ _ _
      exact hret _ _ _ _ _ hw (by rw [ef1]; simp only [sp_damp, sp_lo, sp_hi, sp_damp1]; simp [q21, q30]) dX0_takeUp_41
    · have q30 := cmp_nle c30
      refine lv_dconst1 hx hb dX0_takeUp_33 ?_
      refine lv_goto (tgt := 38) hx hb dX0_takeUp_34 (by decide) ?_
      refine wp_ (C := RX0) (T := TX0) (N := 4) hx hb hts hi0 tyX0 tyX0_ok nmX0 hown hw hLa hfa rfl 1 (by decide) (hts (.fieldLink RX0 17 "LayerMoisture$Air" "damp" "D") (by decide +kernel)) (fun _ h9 => h9) rfl (ty := .double) (v := .double FP.dconst1) (by decide +kernel) rfl rfl (Nat.le_of_ble_eq_true rfl) dX0_takeUp_38 (fun H locs hw => ?_)
      obtain ⟨f3, ef3⟩ : ∃ z : Nat → va_E, z = va_up f a (.inr (1, [.double kel, .double FP.dconst1, .double spd, .double vent])) := ⟨_, rfl⟩
      have hw : ww G dA A s L f3 H locs := by rw [ef3]; exact hw
      have h4 : f3 a = .inr (1, [.double kel, .double FP.dconst1, .double spd, .double vent]) := by rw [ef3]; exact va_up_self _ _ _
      exact hret _ _ _ _ _ hw (by rw [ef3]; simp only [sp_damp, sp_lo, sp_hi, sp_damp1]; simp [q21, q30]) dX0_takeUp_41
  · have q21 := cmp_nge c21
    refine lv_dconst0 hx hb dX0_takeUp_24 ?_
    refine lv_dstore_n (lv' := [(3, .double FP.dconst0), (0, .ref a), (1, .double water)]) hx hb dX0_takeUp_25 rfl hl (by decide) rfl (fun ls hl => ?_)
    refine lv_aload_n hx hb dX0_takeUp_26 rfl (lv_at hl 1 rfl) ?_
    refine lv_dload_n hx hb dX0_takeUp_27 rfl (lv_at hl 0 rfl) ?_
    refine lv_dconst1 hx hb dX0_takeUp_28 ?_
    refine lv_dcmp hx hb dX0_takeUp_29 ?_
    refine lv_if_le (tgt := 37) hx hb dX0_takeUp_30 (by decide) (fun c30 => ?_) (fun c30 => ?_)
    · have q30 := cmp_le c30
      refine lv_dload_n hx hb dX0_takeUp_37 rfl (lv_at hl 0 rfl) ?_
      refine wp_ (C := RX0) (T := TX0) (N := 4) hx hb hts hi0 tyX0 tyX0_ok nmX0 hown hw hLa hfa rfl 1 (by decide) (hts (.fieldLink RX0 17 "LayerMoisture$Air" "damp" "D") (by decide +kernel)) (fun _ h9 => h9) rfl (ty := .double) (v := .double FP.dconst0) (by decide +kernel) rfl rfl (Nat.le_of_ble_eq_true rfl) dX0_takeUp_38 (fun H locs hw => ?_)
      obtain ⟨f5, ef5⟩ : ∃ z : Nat → va_E, z = va_up f a (.inr (1, [.double kel, .double FP.dconst0, .double spd, .double vent])) := ⟨_, rfl⟩
      have hw : ww G dA A s L f5 H locs := by rw [ef5]; exact hw
      have h6 : f5 a = .inr (1, [.double kel, .double FP.dconst0, .double spd, .double vent]) := by rw [ef5]; exact va_up_self _ _ _
      exact hret _ _ _ _ _ hw (by rw [ef5]; simp only [sp_damp, sp_lo, sp_hi, sp_damp1]; simp [q21, q30]) dX0_takeUp_41
    · have q30 := cmp_nle c30
      refine lv_dconst1 hx hb dX0_takeUp_33 ?_
      refine lv_goto (tgt := 38) hx hb dX0_takeUp_34 (by decide) ?_
      refine wp_ (C := RX0) (T := TX0) (N := 4) hx hb hts hi0 tyX0 tyX0_ok nmX0 hown hw hLa hfa rfl 1 (by decide) (hts (.fieldLink RX0 17 "LayerMoisture$Air" "damp" "D") (by decide +kernel)) (fun _ h9 => h9) rfl (ty := .double) (v := .double FP.dconst1) (by decide +kernel) rfl rfl (Nat.le_of_ble_eq_true rfl) dX0_takeUp_38 (fun H locs hw => ?_)
      obtain ⟨f7, ef7⟩ : ∃ z : Nat → va_E, z = va_up f a (.inr (1, [.double kel, .double FP.dconst1, .double spd, .double vent])) := ⟨_, rfl⟩
      have hw : ww G dA A s L f7 H locs := by rw [ef7]; exact hw
      have h8 : f7 a = .inr (1, [.double kel, .double FP.dconst1, .double spd, .double vent]) := by rw [ef7]; exact va_up_self _ _ _
      exact hret _ _ _ _ _ hw (by rw [ef7]; simp only [sp_damp, sp_lo, sp_hi, sp_damp1]; simp [q21, q30]) dX0_takeUp_41

set_option maxHeartbeats 4000000 in
set_option maxRecDepth 100000 in
theorem c_X3_take (l : Launch) (G : va_G) (dA : Nat → ClassId) (L : List Nat) (f : Nat → va_E) (a : Nat) (rest water : UInt64) (gone : Int64) (hLa : a ∈ L) (hfa : f a = .inr (4, [.double rest, .long gone]))  (n6 : vf_n64 (FP.dadd rest water)) (n23 : vf_n64 (FP.dsub (FP.dadd rest water) (FP.l2d (FP.d2l (FP.dadd rest water))))) : mV l yX3_take wsX3_take ({ frames := 0, cells := 0, slots := 0, locals := 0 }) G dA [.ref a, .double water] L f (fun f2 => f2 = va_up f a (.inr (4, [.double (FP.dsub (FP.dadd rest water) (FP.l2d (FP.d2l (FP.dadd rest water)))), .long (gone + FP.d2l (FP.dadd rest water))]))) := by
  refine mV_of (cc := cX3_take) (maxL := 5) (by decide) rfl (Nat.le_of_ble_eq_true rfl) ?_
  intro p e s m below meth c A ls Q hx hb hml hown hts hlocks hA hin0 hw hl hret
  have hown : s.vm.findClass RX3 = some m.cls := hown
  have hl : lv_has ls 5 [(0, .ref a), (1, .double water)] := hl
  have hi3 : ∀ w ∈ u_ws RX3 TX3 2, w ∈ wsX3_take := by decide +kernel
  refine lv_aload_n hx hb dX3_take_0 rfl (lv_at hl 0 rfl) ?_
  refine lv_aload_n hx hb dX3_take_1 rfl (lv_at hl 0 rfl) ?_
  refine wg (C := RX3) (T := TX3) (N := 2) hx hb hts hi3 hown hw hLa hfa rfl 0 (by decide) (hts (.fieldLink RX3 7 "LayerMoisture$Ledger" "rest" "D") (by decide +kernel)) (fun _ h9 => h9) (v := .double rest) rfl dX3_take_2 ?_
  refine lv_dload_n hx hb dX3_take_5 rfl (lv_at hl 1 rfl) ?_
  refine lv_dadd hx hb dX3_take_6 n6 ?_
  refine wp_ (C := RX3) (T := TX3) (N := 2) hx hb hts hi3 tyX3 tyX3_ok nmX3 hown hw hLa hfa rfl 0 (by decide) (hts (.fieldLink RX3 7 "LayerMoisture$Ledger" "rest" "D") (by decide +kernel)) (fun _ h9 => h9) rfl (ty := .double) (v := .double (FP.dadd rest water)) (by decide +kernel) rfl rfl (Nat.le_of_ble_eq_true rfl) dX3_take_7 (fun H locs hw => ?_)
  obtain ⟨f1, ef1⟩ : ∃ z : Nat → va_E, z = va_up f a (.inr (4, [.double (FP.dadd rest water), .long gone])) := ⟨_, rfl⟩
  have hw : ww G dA A s L f1 H locs := by rw [ef1]; exact hw
  have h2 : f1 a = .inr (4, [.double (FP.dadd rest water), .long gone]) := by rw [ef1]; exact va_up_self _ _ _
  refine lv_aload_n hx hb dX3_take_10 rfl (lv_at hl 0 rfl) ?_
  refine wg (C := RX3) (T := TX3) (N := 2) hx hb hts hi3 hown hw hLa h2 rfl 0 (by decide) (hts (.fieldLink RX3 7 "LayerMoisture$Ledger" "rest" "D") (by decide +kernel)) (fun _ h9 => h9) (v := .double (FP.dadd rest water)) rfl dX3_take_11 ?_
  refine lv_d2l hx hb dX3_take_14 ?_
  refine lv_lstore_n (lv' := [(3, .long (FP.d2l (FP.dadd rest water))), (0, .ref a), (1, .double water)]) hx hb dX3_take_15 rfl hl (by decide) rfl (fun ls hl => ?_)
  refine lv_aload_n hx hb dX3_take_16 rfl (lv_at hl 1 rfl) ?_
  refine lv_aload_n hx hb dX3_take_17 rfl (lv_at hl 1 rfl) ?_
  refine wg (C := RX3) (T := TX3) (N := 2) hx hb hts hi3 hown hw hLa h2 rfl 0 (by decide) (hts (.fieldLink RX3 7 "LayerMoisture$Ledger" "rest" "D") (by decide +kernel)) (fun _ h9 => h9) (v := .double (FP.dadd rest water)) rfl dX3_take_18 ?_
  refine lv_lload_n hx hb dX3_take_21 rfl (lv_at hl 0 rfl) ?_
  refine lv_l2d hx hb dX3_take_22 ?_
  refine lv_dsub hx hb dX3_take_23 n23 ?_
  refine wp_ (C := RX3) (T := TX3) (N := 2) hx hb hts hi3 tyX3 tyX3_ok nmX3 hown hw hLa h2 rfl 0 (by decide) (hts (.fieldLink RX3 7 "LayerMoisture$Ledger" "rest" "D") (by decide +kernel)) (fun _ h9 => h9) rfl (ty := .double) (v := .double (FP.dsub (FP.dadd rest water) (FP.l2d (FP.d2l (FP.dadd rest water))))) (by decide +kernel) rfl rfl (Nat.le_of_ble_eq_true rfl) dX3_take_24 (fun H locs hw => ?_)
  obtain ⟨f3, ef3⟩ : ∃ z : Nat → va_E, z = va_up f1 a (.inr (4, [.double (FP.dsub (FP.dadd rest water) (FP.l2d (FP.d2l (FP.dadd rest water)))), .long gone])) := ⟨_, rfl⟩
  have hw : ww G dA A s L f3 H locs := by rw [ef3]; exact hw
  have h4 : f3 a = .inr (4, [.double (FP.dsub (FP.dadd rest water) (FP.l2d (FP.d2l (FP.dadd rest water)))), .long gone]) := by rw [ef3]; exact va_up_self _ _ _
  refine lv_aload_n hx hb dX3_take_27 rfl (lv_at hl 1 rfl) ?_
  refine lv_aload_n hx hb dX3_take_28 rfl (lv_at hl 1 rfl) ?_
  refine wg (C := RX3) (T := TX3) (N := 2) hx hb hts hi3 hown hw hLa h4 rfl 1 (by decide) (hts (.fieldLink RX3 13 "LayerMoisture$Ledger" "gone" "J") (by decide +kernel)) (fun _ h9 => h9) (v := .long gone) rfl dX3_take_29 ?_
  refine lv_lload_n hx hb dX3_take_32 rfl (lv_at hl 0 rfl) ?_
  refine lv_ladd hx hb dX3_take_33 ?_
  refine wp_ (C := RX3) (T := TX3) (N := 2) hx hb hts hi3 tyX3 tyX3_ok nmX3 hown hw hLa h4 rfl 1 (by decide) (hts (.fieldLink RX3 13 "LayerMoisture$Ledger" "gone" "J") (by decide +kernel)) (fun _ h9 => h9) rfl (ty := .long) (v := .long (gone + (FP.d2l (FP.dadd rest water)))) (by decide +kernel) rfl rfl (Nat.le_of_ble_eq_true rfl) dX3_take_34 (fun H locs hw => ?_)
  obtain ⟨f5, ef5⟩ : ∃ z : Nat → va_E, z = va_up f3 a (.inr (4, [.double (FP.dsub (FP.dadd rest water) (FP.l2d (FP.d2l (FP.dadd rest water)))), .long (gone + (FP.d2l (FP.dadd rest water)))])) := ⟨_, rfl⟩
  have hw : ww G dA A s L f5 H locs := by rw [ef5]; exact hw
  have h6 : f5 a = .inr (4, [.double (FP.dsub (FP.dadd rest water) (FP.l2d (FP.d2l (FP.dadd rest water)))), .long (gone + (FP.d2l (FP.dadd rest water)))]) := by rw [ef5]; exact va_up_self _ _ _
  exact hret _ _ _ _ _ hw (by rw [ef5, ef3, ef1]; funext z; by_cases hz : z = a <;> simp [va_up, hz]) dX3_take_37
end
section
set_option maxHeartbeats 4000000 in
set_option maxRecDepth 100000 in
theorem c_X1_shrinkage (l : Launch) (G : va_G) (dA : Nat → ClassId) (L : List Nat) (f : Nat → va_E) (x : UInt64)  (h1 : vf_n64 (FP.dsub 4599301119452119040 (sp_cut x))) (h2 : vf_n64 (FP.dmul 4598175219545276416 (FP.dsub 4599301119452119040 (sp_cut x))))  : mD l yX1_shrinkage wsX1_shrinkage ({ frames := 0, cells := 0, slots := 0, locals := 0 }) G dA [.double x] L f (fun r f2 => r = sp_shr x ∧ f2 = f) := by
  refine mD_of (cc := cX1_shrinkage) (maxL := 2) (by decide) rfl (Nat.le_of_ble_eq_true rfl) ?_
  intro p e s m below meth c A ls Q hx hb hml hown hts hlocks hA hin0 hw hl hret
  have hown : s.vm.findClass RX1 = some m.cls := hown
  have hl : lv_has ls 2 [(0, .double x)] := hl
  refine lv_ldc2d (v := 4598175219545276416) hx hb hown (hts (.constantDouble RX1 39 (4598175219545276416)) (by decide +kernel)) dX1_shrinkage_0 ?_
  refine lv_ldc2d (v := 4599301119452119040) hx hb hown (hts (.constantDouble RX1 63 (4599301119452119040)) (by decide +kernel)) dX1_shrinkage_3 ?_
  refine lv_dload_n hx hb dX1_shrinkage_6 rfl (lv_at hl 0 rfl) ?_
  refine lv_ldc2d (v := 4599301119452119040) hx hb hown (hts (.constantDouble RX1 63 (4599301119452119040)) (by decide +kernel)) dX1_shrinkage_7 ?_
  refine lv_dcmp hx hb dX1_shrinkage_10 ?_
  refine lv_if_ge (tgt := 18) hx hb dX1_shrinkage_11 (by decide) (fun c11 => ?_) (fun c11 => ?_)
  · have e11 : sp_cut x = 4599301119452119040 := by simp [sp_cut, cmp_ge c11]
    rw [e11] at h1 h2
    refine lv_ldc2d (v := 4599301119452119040) hx hb hown (hts (.constantDouble RX1 63 (4599301119452119040)) (by decide +kernel)) dX1_shrinkage_18 ?_
    refine lv_dsub hx hb dX1_shrinkage_21 h1 ?_
    refine lv_dmul hx hb dX1_shrinkage_22 h2 ?_
    exact hret _ _ _ _ _ _ hw ⟨by rw [sp_shr, e11], rfl⟩ dX1_shrinkage_23
  · have e11 : sp_cut x = x := by simp [sp_cut, cmp_nge c11]
    rw [e11] at h1 h2
    refine lv_dload_n hx hb dX1_shrinkage_14 rfl (lv_at hl 0 rfl) ?_
    refine lv_goto (tgt := 21) hx hb dX1_shrinkage_15 (by decide) ?_
    refine lv_dsub hx hb dX1_shrinkage_21 h1 ?_
    refine lv_dmul hx hb dX1_shrinkage_22 h2 ?_
    exact hret _ _ _ _ _ _ hw ⟨by rw [sp_shr, e11], rfl⟩ dX1_shrinkage_23

set_option maxHeartbeats 4000000 in
set_option maxRecDepth 100000 in
theorem c_X1_meanWetness (l : Launch) (G : va_G) (dA : Nat → ClassId) (L : List Nat) (f : Nat → va_E) (b w k : Nat) (th lim kept : Int32) (dep load : UInt64) (n : Nat) (g : Nat → UInt64) (hLb : b ∈ L) (hfb : f b = .inr (2, [.ref w, .ref k, .int th, .double dep, .int lim, .double load, .int kept])) (hLw : w ∈ L) (hfw : f w = aD (dA 1) n g) (hn31 : n < 2 ^ 31) (hs : ∀ i, i < n → vf_n64 (FP.dadd (sumD g i) (g i))) (hq : vf_n64 (FP.ddiv (sumD g n) (FP.i2d (nI n))))  : mD l yX1_meanWetness wsX1_meanWetness ({ frames := 0, cells := 0, slots := 0, locals := 0 }) G dA [.ref b] L f (fun r f2 => r = sp_mean g n ∧ f2 = f) := by
  refine mD_of (cc := cX1_meanWetness) (maxL := 4) (by decide) rfl (Nat.le_of_ble_eq_true rfl) ?_
  intro p e s m below meth c A ls Q hx hb hml hown hts hlocks hA hin0 hw hl hret
  have hown : s.vm.findClass RX1 = some m.cls := hown
  have hl : lv_has ls 4 [(0, .ref b)] := hl
  have hi1 : ∀ w ∈ u_ws RX1 TX1 7, w ∈ wsX1_meanWetness := by decide +kernel
  refine lv_dconst0 hx hb dX1_meanWetness_0 ?_
  refine lv_dstore_n (lv' := [(1, .double FP.dconst0), (0, .ref b)]) hx hb dX1_meanWetness_1 rfl hl (by decide) rfl (fun ls hl => ?_)
  refine lv_iconst (v := 0) hx hb dX1_meanWetness_2 (by decide) ?_
  refine lv_istore_n (lv' := [(3, .int 0), (1, .double FP.dconst0), (0, .ref b)]) hx hb dX1_meanWetness_3 rfl hl (by decide) rfl (fun ls hl => ?_)
  have loop : ∀ (kf i : Nat), i + kf = n → ∀ (ls : Array Slot), lv_has ls 4 [(0, .ref b), (1, .double (sumD g i)), (3, .int (nI i))] → W p l e ({ frames := 0, cells := 0, slots := 0, locals := 0 } : Room) s m ([.ref b] : List Value).toArray below meth c s.heap [] 0 0 Q (F0 m 4 ls []) := by
    intro kf
    induction kf with
    | zero =>
      intro i hik ls hl
      rw [show i = n by omega] at hl
      refine lv_iload_n hx hb dX1_meanWetness_4 rfl (lv_at hl 2 rfl) ?_
      refine lv_aload_n hx hb dX1_meanWetness_5 rfl (lv_at hl 0 rfl) ?_
      refine wg (C := RX1) (T := TX1) (N := 7) hx hb hts hi1 hown hw hLb hfb rfl 0 (by decide) (hts (.fieldLink RX1 9 "LayerMoisture$Board" "wetness" "[D") (by decide +kernel)) (fun _ h9 => h9) (v := .ref w) rfl dX1_meanWetness_6 ?_
      refine wlen hx hb 1 hw hLw hfw rfl dX1_meanWetness_9 ?_
      refine lv_icmp_ge (tgt := 28) hx hb dX1_meanWetness_10 (by decide) (fun _ => ?_) (fun c9 => absurd (nI_le (Nat.le_refl _) hn31) c9)
      refine lv_dload_n hx hb dX1_meanWetness_28 rfl (lv_at hl 1 rfl) ?_
      refine lv_aload_n hx hb dX1_meanWetness_29 rfl (lv_at hl 0 rfl) ?_
      refine wg (C := RX1) (T := TX1) (N := 7) hx hb hts hi1 hown hw hLb hfb rfl 0 (by decide) (hts (.fieldLink RX1 9 "LayerMoisture$Board" "wetness" "[D") (by decide +kernel)) (fun _ h9 => h9) (v := .ref w) rfl dX1_meanWetness_30 ?_
      refine wlen hx hb 1 hw hLw hfw rfl dX1_meanWetness_33 ?_
      refine lv_i2d hx hb dX1_meanWetness_34 ?_
      refine lv_ddiv hx hb dX1_meanWetness_35 hq ?_
      exact hret _ _ _ _ _ _ hw ⟨rfl, rfl⟩ dX1_meanWetness_36
    | succ kf ih =>
      intro i hik ls hl
      have hlt : i < n := by omega
      refine lv_iload_n hx hb dX1_meanWetness_4 rfl (lv_at hl 2 rfl) ?_
      refine lv_aload_n hx hb dX1_meanWetness_5 rfl (lv_at hl 0 rfl) ?_
      refine wg (C := RX1) (T := TX1) (N := 7) hx hb hts hi1 hown hw hLb hfb rfl 0 (by decide) (hts (.fieldLink RX1 9 "LayerMoisture$Board" "wetness" "[D") (by decide +kernel)) (fun _ h9 => h9) (v := .ref w) rfl dX1_meanWetness_6 ?_
      refine wlen hx hb 1 hw hLw hfw rfl dX1_meanWetness_9 ?_
      refine lv_icmp_ge (tgt := 28) hx hb dX1_meanWetness_10 (by decide) (fun c9 => absurd c9 (nI_ge hlt hn31)) (fun _ => ?_)
      refine lv_dload_n hx hb dX1_meanWetness_13 rfl (lv_at hl 1 rfl) ?_
      refine lv_aload_n hx hb dX1_meanWetness_14 rfl (lv_at hl 0 rfl) ?_
      refine wg (C := RX1) (T := TX1) (N := 7) hx hb hts hi1 hown hw hLb hfb rfl 0 (by decide) (hts (.fieldLink RX1 9 "LayerMoisture$Board" "wetness" "[D") (by decide +kernel)) (fun _ h9 => h9) (v := .ref w) rfl dX1_meanWetness_15 ?_
      refine lv_iload_n hx hb dX1_meanWetness_18 rfl (lv_at hl 2 rfl) ?_
      refine wld_d hx hb hw hLw hfw i hlt hn31 rfl dX1_meanWetness_19 ?_
      refine lv_dadd hx hb dX1_meanWetness_20 (hs i hlt) ?_
      refine lv_dstore_n (lv' := [(1, .double (FP.dadd (sumD g i) (g i))), (0, .ref b), (3, .int (nI i))]) hx hb dX1_meanWetness_21 rfl hl (by decide) rfl (fun ls hl => ?_)
      refine lv_iinc (v := nI (i + 1)) (lv' := [(3, .int (nI (i + 1))), (1, .double (FP.dadd (sumD g i) (g i))), (0, .ref b)]) hx hb dX1_meanWetness_22 hl (k := 2) rfl (nI_1 i) (by decide) rfl (fun ls hl => ?_)
      refine lv_goto (tgt := 4) hx hb dX1_meanWetness_25 (by decide) ?_
      exact ih (i + 1) (by omega) ls (lv_sub hl [2, 1, 0] rfl)
  exact loop n 0 (by omega) ls (lv_sub hl [2, 1, 0] rfl)

set_option maxHeartbeats 4000000 in
set_option maxRecDepth 100000 in
theorem c_X1_greatestWetness (l : Launch) (G : va_G) (dA : Nat → ClassId) (L : List Nat) (f : Nat → va_E) (b w k : Nat) (th lim kept : Int32) (dep load : UInt64) (n : Nat) (g : Nat → UInt64) (hLb : b ∈ L) (hfb : f b = .inr (2, [.ref w, .ref k, .int th, .double dep, .int lim, .double load, .int kept])) (hLw : w ∈ L) (hfw : f w = aD (dA 1) n g) (hn31 : n < 2 ^ 31)  : mD l yX1_greatestWetness wsX1_greatestWetness ({ frames := 0, cells := 0, slots := 0, locals := 0 }) G dA [.ref b] L f (fun r f2 => r = maxD g n ∧ f2 = f) := by
  refine mD_of (cc := cX1_greatestWetness) (maxL := 4) (by decide) rfl (Nat.le_of_ble_eq_true rfl) ?_
  intro p e s m below meth c A ls Q hx hb hml hown hts hlocks hA hin0 hw hl hret
  have hown : s.vm.findClass RX1 = some m.cls := hown
  have hl : lv_has ls 4 [(0, .ref b)] := hl
  have hi1 : ∀ w ∈ u_ws RX1 TX1 7, w ∈ wsX1_greatestWetness := by decide +kernel
  refine lv_dconst0 hx hb dX1_greatestWetness_0 ?_
  refine lv_dstore_n (lv' := [(1, .double FP.dconst0), (0, .ref b)]) hx hb dX1_greatestWetness_1 rfl hl (by decide) rfl (fun ls hl => ?_)
  refine lv_iconst (v := 0) hx hb dX1_greatestWetness_2 (by decide) ?_
  refine lv_istore_n (lv' := [(3, .int 0), (1, .double FP.dconst0), (0, .ref b)]) hx hb dX1_greatestWetness_3 rfl hl (by decide) rfl (fun ls hl => ?_)
  have loop : ∀ (kf i : Nat), i + kf = n → ∀ (ls : Array Slot), lv_has ls 4 [(0, .ref b), (1, .double (maxD g i)), (3, .int (nI i))] → W p l e ({ frames := 0, cells := 0, slots := 0, locals := 0 } : Room) s m ([.ref b] : List Value).toArray below meth c s.heap [] 0 0 Q (F0 m 4 ls []) := by
    intro kf
    induction kf with
    | zero =>
      intro i hik ls hl
      rw [show i = n by omega] at hl
      refine lv_iload_n hx hb dX1_greatestWetness_4 rfl (lv_at hl 2 rfl) ?_
      refine lv_aload_n hx hb dX1_greatestWetness_5 rfl (lv_at hl 0 rfl) ?_
      refine wg (C := RX1) (T := TX1) (N := 7) hx hb hts hi1 hown hw hLb hfb rfl 0 (by decide) (hts (.fieldLink RX1 9 "LayerMoisture$Board" "wetness" "[D") (by decide +kernel)) (fun _ h9 => h9) (v := .ref w) rfl dX1_greatestWetness_6 ?_
      refine wlen hx hb 1 hw hLw hfw rfl dX1_greatestWetness_9 ?_
      refine lv_icmp_ge (tgt := 37) hx hb dX1_greatestWetness_10 (by decide) (fun _ => ?_) (fun c9 => absurd (nI_le (Nat.le_refl _) hn31) c9)
      refine lv_dload_n hx hb dX1_greatestWetness_37 rfl (lv_at hl 1 rfl) ?_
      exact hret _ _ _ _ _ _ hw ⟨rfl, rfl⟩ dX1_greatestWetness_38
    | succ kf ih =>
      intro i hik ls hl
      have hlt : i < n := by omega
      refine lv_iload_n hx hb dX1_greatestWetness_4 rfl (lv_at hl 2 rfl) ?_
      refine lv_aload_n hx hb dX1_greatestWetness_5 rfl (lv_at hl 0 rfl) ?_
      refine wg (C := RX1) (T := TX1) (N := 7) hx hb hts hi1 hown hw hLb hfb rfl 0 (by decide) (hts (.fieldLink RX1 9 "LayerMoisture$Board" "wetness" "[D") (by decide +kernel)) (fun _ h9 => h9) (v := .ref w) rfl dX1_greatestWetness_6 ?_
      refine wlen hx hb 1 hw hLw hfw rfl dX1_greatestWetness_9 ?_
      refine lv_icmp_ge (tgt := 37) hx hb dX1_greatestWetness_10 (by decide) (fun c9 => absurd c9 (nI_ge hlt hn31)) (fun _ => ?_)
      refine lv_aload_n hx hb dX1_greatestWetness_13 rfl (lv_at hl 0 rfl) ?_
      refine wg (C := RX1) (T := TX1) (N := 7) hx hb hts hi1 hown hw hLb hfb rfl 0 (by decide) (hts (.fieldLink RX1 9 "LayerMoisture$Board" "wetness" "[D") (by decide +kernel)) (fun _ h9 => h9) (v := .ref w) rfl dX1_greatestWetness_14 ?_
      refine lv_iload_n hx hb dX1_greatestWetness_17 rfl (lv_at hl 2 rfl) ?_
      refine wld_d hx hb hw hLw hfw i hlt hn31 rfl dX1_greatestWetness_18 ?_
      refine lv_dload_n hx hb dX1_greatestWetness_19 rfl (lv_at hl 1 rfl) ?_
      refine lv_dcmp hx hb dX1_greatestWetness_20 ?_
      refine lv_if_le (tgt := 31) hx hb dX1_greatestWetness_21 (by decide) (fun c21 => ?_) (fun c21 => ?_)
      · have e9 : maxD g (i + 1) = maxD g i := by simp [maxD, cmp_le c21]
        refine lv_iinc (v := nI (i + 1)) (lv' := [(3, .int (nI (i + 1))), (0, .ref b), (1, .double (maxD g i))]) hx hb dX1_greatestWetness_31 hl (k := 2) rfl (nI_1 i) (by decide) rfl (fun ls hl => ?_)
        refine lv_goto (tgt := 4) hx hb dX1_greatestWetness_34 (by decide) ?_
        exact ih (i + 1) (by omega) ls (by rw [e9]; exact lv_sub hl [1, 2, 0] rfl)
      · have e9 : maxD g (i + 1) = g i := by simp [maxD, cmp_nle c21]
        refine lv_aload_n hx hb dX1_greatestWetness_24 rfl (lv_at hl 0 rfl) ?_
        refine wg (C := RX1) (T := TX1) (N := 7) hx hb hts hi1 hown hw hLb hfb rfl 0 (by decide) (hts (.fieldLink RX1 9 "LayerMoisture$Board" "wetness" "[D") (by decide +kernel)) (fun _ h9 => h9) (v := .ref w) rfl dX1_greatestWetness_25 ?_
        refine lv_iload_n hx hb dX1_greatestWetness_28 rfl (lv_at hl 2 rfl) ?_
        refine wld_d hx hb hw hLw hfw i hlt hn31 rfl dX1_greatestWetness_29 ?_
        refine lv_dstore_n (lv' := [(1, .double (g i)), (0, .ref b), (3, .int (nI i))]) hx hb dX1_greatestWetness_30 rfl hl (by decide) rfl (fun ls hl => ?_)
        refine lv_iinc (v := nI (i + 1)) (lv' := [(3, .int (nI (i + 1))), (1, .double (g i)), (0, .ref b)]) hx hb dX1_greatestWetness_31 hl (k := 2) rfl (nI_1 i) (by decide) rfl (fun ls hl => ?_)
        refine lv_goto (tgt := 4) hx hb dX1_greatestWetness_34 (by decide) ?_
        exact ih (i + 1) (by omega) ls (by rw [e9]; exact lv_sub hl [2, 1, 0] rfl)
  exact loop n 0 (by omega) ls (lv_sub hl [2, 1, 0] rfl)

set_option maxHeartbeats 4000000 in
set_option maxRecDepth 100000 in
theorem c_X1_faceFlow (l : Launch) (G : va_G) (dA : Nat → ClassId) (L : List Nat) (f : Nat → va_E) (b w k : Nat) (th lim kept : Int32) (dep load x spd bal : UInt64) (hLb : b ∈ L) (hfb : f b = .inr (2, [.ref w, .ref k, .int th, .double dep, .int lim, .double load, .int kept]))  (n4 : vf_n64 (FP.dsub x bal)) (n5 : vf_n64 (FP.dmul spd (FP.dsub x bal))) (n13 : vf_n64 (FP.dmul 4620693217682128896 dep)) (n14 : vf_n64 (FP.ddiv (FP.dmul spd (FP.dsub x bal)) (FP.dmul 4620693217682128896 dep))) : mD l yX1_faceFlow wsX1_faceFlow ({ frames := 0, cells := 0, slots := 0, locals := 0 }) G dA [.ref b, .double x, .double spd, .double bal] L f (fun r f2 => r = sp_face dep x spd bal ∧ f2 = f) := by
  refine mD_of (cc := cX1_faceFlow) (maxL := 7) (by decide) rfl (Nat.le_of_ble_eq_true rfl) ?_
  intro p e s m below meth c A ls Q hx hb hml hown hts hlocks hA hin0 hw hl hret
  have hown : s.vm.findClass RX1 = some m.cls := hown
  have hl : lv_has ls 7 [(0, .ref b), (1, .double x), (3, .double spd), (5, .double bal)] := hl
  have hi1 : ∀ w ∈ u_ws RX1 TX1 7, w ∈ wsX1_faceFlow := by decide +kernel
  refine lv_dload_n hx hb dX1_faceFlow_0 rfl (lv_at hl 2 rfl) ?_
  refine lv_dload_n hx hb dX1_faceFlow_1 rfl (lv_at hl 1 rfl) ?_
  refine lv_dload hx hb dX1_faceFlow_2 (lv_at hl 3 rfl) ?_
  refine lv_dsub hx hb dX1_faceFlow_4 n4 ?_
  refine lv_dmul hx hb dX1_faceFlow_5 n5 ?_
  refine lv_ldc2d (v := 4620693217682128896) hx hb hown (hts (.constantDouble RX1 37 (4620693217682128896)) (by decide +kernel)) dX1_faceFlow_6 ?_
  refine lv_aload_n hx hb dX1_faceFlow_9 rfl (lv_at hl 0 rfl) ?_
  refine wg (C := RX1) (T := TX1) (N := 7) hx hb hts hi1 hown hw hLb hfb rfl 3 (by decide) (hts (.fieldLink RX1 23 "LayerMoisture$Board" "depth" "D") (by decide +kernel)) (fun _ h9 => h9) (v := .double dep) rfl dX1_faceFlow_10 ?_
  refine lv_dmul hx hb dX1_faceFlow_13 n13 ?_
  refine lv_ddiv hx hb dX1_faceFlow_14 n14 ?_
  exact hret _ _ _ _ _ _ hw ⟨rfl, rfl⟩ dX1_faceFlow_15

set_option maxHeartbeats 4000000 in
set_option maxRecDepth 100000 in
theorem c_X1_slopeFlow (l : Launch) (G : va_G) (dA : Nat → ClassId) (L : List Nat) (f : Nat → va_E) (b w k : Nat) (th lim kept : Int32) (dep load ka kb x y : UInt64) (hLb : b ∈ L) (hfb : f b = .inr (2, [.ref w, .ref k, .int th, .double dep, .int lim, .double load, .int kept])) (hLk : k ∈ L) (hfk : f k = .inr (3, [.double ka, .double kb]))  (n6 : vf_n64 (FP.dadd x y)) (n10 : vf_n64 (FP.ddiv (FP.dadd x y) 4611686018427387904)) (n901 : vf_n64 (FP.dmul kb (FP.ddiv (FP.dadd x y) 4611686018427387904))) (n902 : vf_n64 (FP.dadd ka (FP.dmul kb (FP.ddiv (FP.dadd x y) 4611686018427387904)))) (n16 : vf_n64 (FP.dsub x y)) (n17 : vf_n64 (FP.dmul (sp_speed ka kb (FP.ddiv (FP.dadd x y) 4611686018427387904)) (FP.dsub x y))) (n26 : vf_n64 (FP.dmul dep dep)) (n27 : vf_n64 (FP.ddiv (FP.dmul (sp_speed ka kb (FP.ddiv (FP.dadd x y) 4611686018427387904)) (FP.dsub x y)) (FP.dmul dep dep))) : mD l yX1_slopeFlow wsX1_slopeFlow ({ frames := 1, cells := 0, slots := 0, locals := 22 }) G dA [.ref b, .double x, .double y] L f (fun r f2 => r = sp_slope ka kb dep x y ∧ f2 = f) := by
  refine mD_of (cc := cX1_slopeFlow) (maxL := 5) (by decide) rfl (Nat.le_of_ble_eq_true rfl) ?_
  intro p e s m below meth c A ls Q hx hb hml hown hts hlocks hA hin0 hw hl hret
  have hown : s.vm.findClass RX1 = some m.cls := hown
  have hl : lv_has ls 5 [(0, .ref b), (1, .double x), (3, .double y)] := hl
  have hi1 : ∀ w ∈ u_ws RX1 TX1 7, w ∈ wsX1_slopeFlow := by decide +kernel
  refine lv_aload_n hx hb dX1_slopeFlow_0 rfl (lv_at hl 0 rfl) ?_
  refine wg (C := RX1) (T := TX1) (N := 7) hx hb hts hi1 hown hw hLb hfb rfl 1 (by decide) (hts (.fieldLink RX1 15 "LayerMoisture$Board" "kind" "LLayerMoisture$Kind;") (by decide +kernel)) (fun _ h9 => h9) (v := .ref k) rfl dX1_slopeFlow_1 ?_
  refine lv_dload_n hx hb dX1_slopeFlow_4 rfl (lv_at hl 1 rfl) ?_
  refine lv_dload_n hx hb dX1_slopeFlow_5 rfl (lv_at hl 2 rfl) ?_
  refine lv_dadd hx hb dX1_slopeFlow_6 n6 ?_
  refine lv_ldc2d (v := 4611686018427387904) hx hb hown (hts (.constantDouble RX1 61 (4611686018427387904)) (by decide +kernel)) dX1_slopeFlow_7 ?_
  refine lv_ddiv hx hb dX1_slopeFlow_10 n10 ?_
  refine kV_D (C := RX2) (T := TX2) (N := 2) (As := [.double (FP.ddiv (FP.dadd x y) 4611686018427387904)]) (rest := []) ⟨hx, hb, hml, hown, hts⟩ (c_X2_speedAt l G dA L f k ka kb (FP.ddiv (FP.dadd x y) 4611686018427387904) hLk hfk n901 n902) (cwV 1 hts gX1_slopeFlow_X2_speedAt rfl rfl rfl (by decide +kernel) ⟨Nat.le_of_ble_eq_true rfl, Nat.le_of_ble_eq_true rfl⟩) hw hA hLk hfk rfl rfl hl.1 rfl (Nat.le_of_ble_eq_true rfl) dX1_slopeFlow_11 ⟨Nat.zero_le _, Nat.zero_le _⟩ (fun r1 f2 H locs hp hw => ?_)
  obtain ⟨e1, e2⟩ := hp
  rw [e2] at hw
  rw [e1]
  refine lv_dload_n hx hb dX1_slopeFlow_14 rfl (lv_at hl 1 rfl) ?_
  refine lv_dload_n hx hb dX1_slopeFlow_15 rfl (lv_at hl 2 rfl) ?_
  refine lv_dsub hx hb dX1_slopeFlow_16 n16 ?_
  refine lv_dmul hx hb dX1_slopeFlow_17 n17 ?_
  refine lv_aload_n hx hb dX1_slopeFlow_18 rfl (lv_at hl 0 rfl) ?_
  refine wg (C := RX1) (T := TX1) (N := 7) hx hb hts hi1 hown hw hLb hfb rfl 3 (by decide) (hts (.fieldLink RX1 23 "LayerMoisture$Board" "depth" "D") (by decide +kernel)) (fun _ h9 => h9) (v := .double dep) rfl dX1_slopeFlow_19 ?_
  refine lv_aload_n hx hb dX1_slopeFlow_22 rfl (lv_at hl 0 rfl) ?_
  refine wg (C := RX1) (T := TX1) (N := 7) hx hb hts hi1 hown hw hLb hfb rfl 3 (by decide) (hts (.fieldLink RX1 23 "LayerMoisture$Board" "depth" "D") (by decide +kernel)) (fun _ h9 => h9) (v := .double dep) rfl dX1_slopeFlow_23 ?_
  refine lv_dmul hx hb dX1_slopeFlow_26 n26 ?_
  refine lv_ddiv hx hb dX1_slopeFlow_27 n27 ?_
  exact hret _ _ _ _ _ _ hw ⟨rfl, rfl⟩ dX1_slopeFlow_28
end
section
set_option maxHeartbeats 4000000 in
set_option maxRecDepth 100000 in
theorem c_X1_setLimit (l : Launch) (G : va_G) (dA : Nat → ClassId) (L : List Nat) (f : Nat → va_E) (b w k : Nat) (th lim kept : Int32) (dep load x : UInt64) (hLb : b ∈ L) (hfb : f b = .inr (2, [.ref w, .ref k, .int th, .double dep, .int lim, .double load, .int kept]))   : mV l yX1_setLimit wsX1_setLimit ({ frames := 0, cells := 0, slots := 0, locals := 0 }) G dA [.ref b, .double x] L f (fun f2 => f2 = va_up f b (.inr (2, [.ref w, .ref k, .int th, .double dep, .int 1, .double x, .int (-1)]))) := by
  refine mV_of (cc := cX1_setLimit) (maxL := 3) (by decide) rfl (Nat.le_of_ble_eq_true rfl) ?_
  intro p e s m below meth c A ls Q hx hb hml hown hts hlocks hA hin0 hw hl hret
  have hown : s.vm.findClass RX1 = some m.cls := hown
  have hl : lv_has ls 3 [(0, .ref b), (1, .double x)] := hl
  have hi1 : ∀ w ∈ u_ws RX1 TX1 7, w ∈ wsX1_setLimit := by decide +kernel
  refine lv_aload_n hx hb dX1_setLimit_0 rfl (lv_at hl 0 rfl) ?_
  refine lv_iconst (v := 1) hx hb dX1_setLimit_1 (by decide) ?_
  refine wp_ (C := RX1) (T := TX1) (N := 7) hx hb hts hi1 tyX1 tyX1_ok nmX1 hown hw hLb hfb rfl 4 (by decide) (hts (.fieldLink RX1 27 "LayerMoisture$Board" "limited" "Z") (by decide +kernel)) (fun _ h9 => h9) rfl (ty := .boolean) (v := .int 1) (by decide +kernel) (by decide) (by decide) (Nat.le_of_ble_eq_true rfl) dX1_setLimit_2 (fun H locs hw => ?_)
  obtain ⟨f1, ef1⟩ : ∃ z : Nat → va_E, z = va_up f b (.inr (2, [.ref w, .ref k, .int th, .double dep, .int 1, .double load, .int kept])) := ⟨_, rfl⟩
  have hw : ww G dA A s L f1 H locs := by rw [ef1]; exact hw
  have h2 : f1 b = .inr (2, [.ref w, .ref k, .int th, .double dep, .int 1, .double load, .int kept]) := by rw [ef1]; exact va_up_self _ _ _
  refine lv_aload_n hx hb dX1_setLimit_5 rfl (lv_at hl 0 rfl) ?_
  refine lv_dload_n hx hb dX1_setLimit_6 rfl (lv_at hl 1 rfl) ?_
  refine wp_ (C := RX1) (T := TX1) (N := 7) hx hb hts hi1 tyX1 tyX1_ok nmX1 hown hw hLb h2 rfl 5 (by decide) (hts (.fieldLink RX1 34 "LayerMoisture$Board" "loadLimit" "D") (by decide +kernel)) (fun _ h9 => h9) rfl (ty := .double) (v := .double x) (by decide +kernel) rfl rfl (Nat.le_of_ble_eq_true rfl) dX1_setLimit_7 (fun H locs hw => ?_)
  obtain ⟨f3, ef3⟩ : ∃ z : Nat → va_E, z = va_up f1 b (.inr (2, [.ref w, .ref k, .int th, .double dep, .int 1, .double x, .int kept])) := ⟨_, rfl⟩
  have hw : ww G dA A s L f3 H locs := by rw [ef3]; exact hw
  have h4 : f3 b = .inr (2, [.ref w, .ref k, .int th, .double dep, .int 1, .double x, .int kept]) := by rw [ef3]; exact va_up_self _ _ _
  refine lv_aload_n hx hb dX1_setLimit_10 rfl (lv_at hl 0 rfl) ?_
  refine lv_iconst (v := (-1)) hx hb dX1_setLimit_11 (by decide) ?_
  refine wp_ (C := RX1) (T := TX1) (N := 7) hx hb hts hi1 tyX1 tyX1_ok nmX1 hown hw hLb h4 rfl 6 (by decide) (hts (.fieldLink RX1 30 "LayerMoisture$Board" "keptHour" "I") (by decide +kernel)) (fun _ h9 => h9) rfl (ty := .int) (v := .int (-1)) (by decide +kernel) rfl rfl (Nat.le_of_ble_eq_true rfl) dX1_setLimit_12 (fun H locs hw => ?_)
  obtain ⟨f5, ef5⟩ : ∃ z : Nat → va_E, z = va_up f3 b (.inr (2, [.ref w, .ref k, .int th, .double dep, .int 1, .double x, .int (-1)])) := ⟨_, rfl⟩
  have hw : ww G dA A s L f5 H locs := by rw [ef5]; exact hw
  have h6 : f5 b = .inr (2, [.ref w, .ref k, .int th, .double dep, .int 1, .double x, .int (-1)]) := by rw [ef5]; exact va_up_self _ _ _
  exact hret _ _ _ _ _ hw (by rw [ef5, ef3, ef1]; funext z; by_cases h1 : z = b <;> simp [va_up, h1]) dX1_setLimit_15

set_option maxHeartbeats 4000000 in
set_option maxRecDepth 100000 in
theorem c_X1_lay (l : Launch) (G : va_G) (dA : Nat → ClassId) (L : List Nat) (f : Nat → va_E) (b w k : Nat) (th lim kept : Int32) (dep load : UInt64) (n : Nat) (g : Nat → UInt64) (thick wet : UInt64) (k2 : Nat) (hLb : b ∈ L) (hfb : f b = .inr (2, [.ref w, .ref k, .int th, .double dep, .int lim, .double load, .int kept])) (hLw : w ∈ L) (hfw : f w = aD (dA 1) n g) (hn31 : n < 2 ^ 31) (hwb : w ≠ b) (hbw : b ≠ w) (n13 : vf_n64 (FP.ddiv thick (FP.i2d (nI n)))) : mV l yX1_lay wsX1_lay ({ frames := 0, cells := 0, slots := 0, locals := 0 }) G dA [.ref b, .double thick, .double wet, .ref k2] L f (fun f2 => f2 = va_up (va_up f b (.inr (2, [.ref w, .ref k2, .int 1, .double (FP.ddiv thick (FP.i2d (nI n))), .int 0, .double load, .int (-1)]))) w (aD (dA 1) n (fillTo wet g n))) := by
  refine mV_of (cc := cX1_lay) (maxL := 7) (by decide) rfl (Nat.le_of_ble_eq_true rfl) ?_
  intro p e s m below meth c A ls Q hx hb hml hown hts hlocks hA hin0 hw hl hret
  have hown : s.vm.findClass RX1 = some m.cls := hown
  have hl : lv_has ls 7 [(0, .ref b), (1, .double thick), (3, .double wet), (5, .ref k2)] := hl
  have hi1 : ∀ w ∈ u_ws RX1 TX1 7, w ∈ wsX1_lay := by decide +kernel
  refine lv_aload_n hx hb dX1_lay_0 rfl (lv_at hl 0 rfl) ?_
  refine lv_iconst (v := 1) hx hb dX1_lay_1 (by decide) ?_
  refine wp_ (C := RX1) (T := TX1) (N := 7) hx hb hts hi1 tyX1 tyX1_ok nmX1 hown hw hLb hfb rfl 2 (by decide) (hts (.fieldLink RX1 19 "LayerMoisture$Board" "there" "Z") (by decide +kernel)) (fun _ h9 => h9) rfl (ty := .boolean) (v := .int 1) (by decide +kernel) (by decide) (by decide) (Nat.le_of_ble_eq_true rfl) dX1_lay_2 (fun H locs hw => ?_)
  obtain ⟨f1, ef1⟩ : ∃ z : Nat → va_E, z = va_up f b (.inr (2, [.ref w, .ref k, .int 1, .double dep, .int lim, .double load, .int kept])) := ⟨_, rfl⟩
  have hw : ww G dA A s L f1 H locs := by rw [ef1]; exact hw
  have h2 : f1 b = .inr (2, [.ref w, .ref k, .int 1, .double dep, .int lim, .double load, .int kept]) := by rw [ef1]; exact va_up_self _ _ _
  have h3 : f1 w = aD (dA 1) n g := by rw [ef1, va_up_ne _ _ hwb]; exact hfw
  refine lv_aload_n hx hb dX1_lay_5 rfl (lv_at hl 0 rfl) ?_
  refine lv_dload_n hx hb dX1_lay_6 rfl (lv_at hl 1 rfl) ?_
  refine lv_aload_n hx hb dX1_lay_7 rfl (lv_at hl 0 rfl) ?_
  refine wg (C := RX1) (T := TX1) (N := 7) hx hb hts hi1 hown hw hLb h2 rfl 0 (by decide) (hts (.fieldLink RX1 9 "LayerMoisture$Board" "wetness" "[D") (by decide +kernel)) (fun _ h9 => h9) (v := .ref w) rfl dX1_lay_8 ?_
  refine wlen hx hb 1 hw hLw h3 rfl dX1_lay_11 ?_
  refine lv_i2d hx hb dX1_lay_12 ?_
  refine lv_ddiv hx hb dX1_lay_13 n13 ?_
  refine wp_ (C := RX1) (T := TX1) (N := 7) hx hb hts hi1 tyX1 tyX1_ok nmX1 hown hw hLb h2 rfl 3 (by decide) (hts (.fieldLink RX1 23 "LayerMoisture$Board" "depth" "D") (by decide +kernel)) (fun _ h9 => h9) rfl (ty := .double) (v := .double (FP.ddiv thick (FP.i2d (nI n)))) (by decide +kernel) rfl rfl (Nat.le_of_ble_eq_true rfl) dX1_lay_14 (fun H locs hw => ?_)
  obtain ⟨f4, ef4⟩ : ∃ z : Nat → va_E, z = va_up f1 b (.inr (2, [.ref w, .ref k, .int 1, .double (FP.ddiv thick (FP.i2d (nI n))), .int lim, .double load, .int kept])) := ⟨_, rfl⟩
  have hw : ww G dA A s L f4 H locs := by rw [ef4]; exact hw
  have h5 : f4 b = .inr (2, [.ref w, .ref k, .int 1, .double (FP.ddiv thick (FP.i2d (nI n))), .int lim, .double load, .int kept]) := by rw [ef4]; exact va_up_self _ _ _
  have h6 : f4 w = aD (dA 1) n g := by rw [ef4, va_up_ne _ _ hwb]; exact h3
  refine lv_aload_n hx hb dX1_lay_17 rfl (lv_at hl 0 rfl) ?_
  refine lv_aload hx hb dX1_lay_18 (lv_at hl 3 rfl) ?_
  refine wp_ (C := RX1) (T := TX1) (N := 7) hx hb hts hi1 tyX1 tyX1_ok nmX1 hown hw hLb h5 rfl 1 (by decide) (hts (.fieldLink RX1 15 "LayerMoisture$Board" "kind" "LLayerMoisture$Kind;") (by decide +kernel)) (fun _ h9 => h9) rfl (ty := .object "LayerMoisture$Kind") (v := .ref k2) (by decide +kernel) rfl rfl (Nat.le_of_ble_eq_true rfl) dX1_lay_20 (fun H locs hw => ?_)
  obtain ⟨f7, ef7⟩ : ∃ z : Nat → va_E, z = va_up f4 b (.inr (2, [.ref w, .ref k2, .int 1, .double (FP.ddiv thick (FP.i2d (nI n))), .int lim, .double load, .int kept])) := ⟨_, rfl⟩
  have hw : ww G dA A s L f7 H locs := by rw [ef7]; exact hw
  have h8 : f7 b = .inr (2, [.ref w, .ref k2, .int 1, .double (FP.ddiv thick (FP.i2d (nI n))), .int lim, .double load, .int kept]) := by rw [ef7]; exact va_up_self _ _ _
  have h9 : f7 w = aD (dA 1) n g := by rw [ef7, va_up_ne _ _ hwb]; exact h6
  refine lv_iconst (v := 0) hx hb dX1_lay_23 (by decide) ?_
  refine lv_istore (lv' := [(6, .int 0), (0, .ref b), (1, .double thick), (3, .double wet), (5, .ref k2)]) hx hb dX1_lay_24 hl (by decide) rfl (fun ls hl => ?_)
  have loop : ∀ (kf i : Nat), i + kf = n → ∀ (H : Heap) (locs : List Loc), ww G dA A s L (va_up f7 w (aD (dA 1) n (fillTo wet g i))) H locs → ∀ (ls : Array Slot), lv_has ls 7 [(0, .ref b), (1, .double thick), (3, .double wet), (5, .ref k2), (6, .int (nI i))] → W p l e ({ frames := 0, cells := 0, slots := 0, locals := 0 } : Room) s m ([.ref b, .double thick, .double wet, .ref k2] : List Value).toArray below meth c H locs 0 0 Q (F0 m 26 ls []) := by
    intro kf
    induction kf with
    | zero =>
      intro i hik H locs hw ls hl
      rw [show i = n by omega] at hl hw
      obtain ⟨f10, ef10⟩ : ∃ z : Nat → va_E, z = va_up f7 w (aD (dA 1) n (fillTo wet g n)) := ⟨_, rfl⟩
      have hw : ww G dA A s L f10 H locs := by rw [ef10]; exact hw
      have h11 : f10 b = .inr (2, [.ref w, .ref k2, .int 1, .double (FP.ddiv thick (FP.i2d (nI n))), .int lim, .double load, .int kept]) := by rw [ef10, va_up_ne _ _ hbw]; exact h8
      have h12 : f10 w = aD (dA 1) n (fillTo wet g n) := by rw [ef10]; exact va_up_self _ _ _
      refine lv_iload hx hb dX1_lay_26 (lv_at hl 4 rfl) ?_
      refine lv_aload_n hx hb dX1_lay_28 rfl (lv_at hl 0 rfl) ?_
      refine wg (C := RX1) (T := TX1) (N := 7) hx hb hts hi1 hown hw hLb h11 rfl 0 (by decide) (hts (.fieldLink RX1 9 "LayerMoisture$Board" "wetness" "[D") (by decide +kernel)) (fun _ h9 => h9) (v := .ref w) rfl dX1_lay_29 ?_
      refine wlen hx hb 1 hw hLw h12 rfl dX1_lay_32 ?_
      refine lv_icmp_ge (tgt := 50) hx hb dX1_lay_33 (by decide) (fun _ => ?_) (fun c9 => absurd (nI_le (Nat.le_refl _) hn31) c9)
      refine lv_aload_n hx hb dX1_lay_50 rfl (lv_at hl 0 rfl) ?_
      refine lv_iconst (v := 0) hx hb dX1_lay_51 (by decide) ?_
      refine wp_ (C := RX1) (T := TX1) (N := 7) hx hb hts hi1 tyX1 tyX1_ok nmX1 hown hw hLb h11 rfl 4 (by decide) (hts (.fieldLink RX1 27 "LayerMoisture$Board" "limited" "Z") (by decide +kernel)) (fun _ h9 => h9) rfl (ty := .boolean) (v := .int 0) (by decide +kernel) (by decide) (by decide) (Nat.le_of_ble_eq_true rfl) dX1_lay_52 (fun H locs hw => ?_)
      obtain ⟨f13, ef13⟩ : ∃ z : Nat → va_E, z = va_up f10 b (.inr (2, [.ref w, .ref k2, .int 1, .double (FP.ddiv thick (FP.i2d (nI n))), .int 0, .double load, .int kept])) := ⟨_, rfl⟩
      have hw : ww G dA A s L f13 H locs := by rw [ef13]; exact hw
      have h14 : f13 b = .inr (2, [.ref w, .ref k2, .int 1, .double (FP.ddiv thick (FP.i2d (nI n))), .int 0, .double load, .int kept]) := by rw [ef13]; exact va_up_self _ _ _
      have h15 : f13 w = aD (dA 1) n ((fillTo wet g n)) := by rw [ef13, va_up_ne _ _ hwb]; exact h12
      refine lv_aload_n hx hb dX1_lay_55 rfl (lv_at hl 0 rfl) ?_
      refine lv_iconst (v := (-1)) hx hb dX1_lay_56 (by decide) ?_
      refine wp_ (C := RX1) (T := TX1) (N := 7) hx hb hts hi1 tyX1 tyX1_ok nmX1 hown hw hLb h14 rfl 6 (by decide) (hts (.fieldLink RX1 30 "LayerMoisture$Board" "keptHour" "I") (by decide +kernel)) (fun _ h9 => h9) rfl (ty := .int) (v := .int (-1)) (by decide +kernel) rfl rfl (Nat.le_of_ble_eq_true rfl) dX1_lay_57 (fun H locs hw => ?_)
      obtain ⟨f16, ef16⟩ : ∃ z : Nat → va_E, z = va_up f13 b (.inr (2, [.ref w, .ref k2, .int 1, .double (FP.ddiv thick (FP.i2d (nI n))), .int 0, .double load, .int (-1)])) := ⟨_, rfl⟩
      have hw : ww G dA A s L f16 H locs := by rw [ef16]; exact hw
      have h17 : f16 b = .inr (2, [.ref w, .ref k2, .int 1, .double (FP.ddiv thick (FP.i2d (nI n))), .int 0, .double load, .int (-1)]) := by rw [ef16]; exact va_up_self _ _ _
      have h18 : f16 w = aD (dA 1) n ((fillTo wet g n)) := by rw [ef16, va_up_ne _ _ hwb]; exact h15
      exact hret _ _ _ _ _ hw (by rw [ef16, ef13, ef10, ef7, ef4, ef1]; funext z; by_cases h1 : z = w <;> by_cases h2 : z = b <;> simp [va_up, h1, h2, hbw, hwb]) dX1_lay_60
    | succ kf ih =>
      intro i hik H locs hw ls hl
      have hlt : i < n := by omega
      obtain ⟨f19, ef19⟩ : ∃ z : Nat → va_E, z = va_up f7 w (aD (dA 1) n (fillTo wet g i)) := ⟨_, rfl⟩
      have hw : ww G dA A s L f19 H locs := by rw [ef19]; exact hw
      have h20 : f19 b = .inr (2, [.ref w, .ref k2, .int 1, .double (FP.ddiv thick (FP.i2d (nI n))), .int lim, .double load, .int kept]) := by rw [ef19, va_up_ne _ _ hbw]; exact h8
      have h21 : f19 w = aD (dA 1) n (fillTo wet g i) := by rw [ef19]; exact va_up_self _ _ _
      refine lv_iload hx hb dX1_lay_26 (lv_at hl 4 rfl) ?_
      refine lv_aload_n hx hb dX1_lay_28 rfl (lv_at hl 0 rfl) ?_
      refine wg (C := RX1) (T := TX1) (N := 7) hx hb hts hi1 hown hw hLb h20 rfl 0 (by decide) (hts (.fieldLink RX1 9 "LayerMoisture$Board" "wetness" "[D") (by decide +kernel)) (fun _ h9 => h9) (v := .ref w) rfl dX1_lay_29 ?_
      refine wlen hx hb 1 hw hLw h21 rfl dX1_lay_32 ?_
      refine lv_icmp_ge (tgt := 50) hx hb dX1_lay_33 (by decide) (fun c9 => absurd c9 (nI_ge hlt hn31)) (fun _ => ?_)
      refine lv_aload_n hx hb dX1_lay_36 rfl (lv_at hl 0 rfl) ?_
      refine wg (C := RX1) (T := TX1) (N := 7) hx hb hts hi1 hown hw hLb h20 rfl 0 (by decide) (hts (.fieldLink RX1 9 "LayerMoisture$Board" "wetness" "[D") (by decide +kernel)) (fun _ h9 => h9) (v := .ref w) rfl dX1_lay_37 ?_
      refine lv_iload hx hb dX1_lay_40 (lv_at hl 4 rfl) ?_
      refine lv_dload_n hx hb dX1_lay_42 rfl (lv_at hl 2 rfl) ?_
      refine wst_d hx hb hw hLw h21 i hlt hn31 rfl dX1_lay_43 (fun H locs hw => ?_)
      obtain ⟨f22, ef22⟩ : ∃ z : Nat → va_E, z = va_up f19 w (aD (dA 1) n (vf_upd ((fillTo wet g i)) i wet)) := ⟨_, rfl⟩
      have hw : ww G dA A s L f22 H locs := by rw [ef22]; exact hw
      have h23 : f22 b = .inr (2, [.ref w, .ref k2, .int 1, .double (FP.ddiv thick (FP.i2d (nI n))), .int lim, .double load, .int kept]) := by rw [ef22, va_up_ne _ _ hbw]; exact h20
      have h24 : f22 w = aD (dA 1) n (vf_upd ((fillTo wet g i)) i wet) := by rw [ef22]; exact va_up_self _ _ _
      refine lv_iinc (v := nI (i + 1)) (lv' := [(6, .int (nI (i + 1))), (0, .ref b), (1, .double thick), (3, .double wet), (5, .ref k2)]) hx hb dX1_lay_44 hl (k := 4) rfl (nI_1 i) (by decide) rfl (fun ls hl => ?_)
      refine lv_goto (tgt := 26) hx hb dX1_lay_47 (by decide) ?_
      rw [ef22, ef19, bx_uu, fillTo_s wet g i] at hw
      exact ih (i + 1) (by omega) _ _ hw ls (lv_sub hl [1, 2, 3, 4, 0] rfl)
  have hw : ww G dA A s L (va_up f7 w (aD (dA 1) n (fillTo wet g 0))) H locs := (show ww G dA A s L (va_up f7 w (aD (dA 1) n g)) H locs by rw [va_up_id h9]; exact hw)
  exact loop n 0 (by omega) _ _ hw ls (lv_sub hl [1, 2, 3, 4, 0] rfl)

set_option maxHeartbeats 4000000 in
set_option maxRecDepth 100000 in
theorem c_X1_meanShrinkage (l : Launch) (G : va_G) (dA : Nat → ClassId) (L : List Nat) (f : Nat → va_E) (b w k : Nat) (th lim kept : Int32) (dep load : UInt64) (n : Nat) (g : Nat → UInt64) (hLb : b ∈ L) (hfb : f b = .inr (2, [.ref w, .ref k, .int th, .double dep, .int lim, .double load, .int kept])) (hLw : w ∈ L) (hfw : f w = aD (dA 1) n g) (hn31 : n < 2 ^ 31) (hc1 : ∀ i, i < n → vf_n64 (FP.dsub 4599301119452119040 (sp_cut (g i)))) (hc2 : ∀ i, i < n → vf_n64 (FP.dmul 4598175219545276416 (FP.dsub 4599301119452119040 (sp_cut (g i))))) (hs : ∀ i, i < n → vf_n64 (FP.dadd (sumD (fun j => sp_shr (g j)) i) (sp_shr (g i)))) (hq : vf_n64 (FP.ddiv (sumD (fun j => sp_shr (g j)) n) (FP.i2d (nI n))))  : mD l yX1_meanShrinkage wsX1_meanShrinkage ({ frames := 1, cells := 0, slots := 0, locals := 21 }) G dA [.ref b] L f (fun r f2 => r = sp_mshr g n ∧ f2 = f) := by
  refine mD_of (cc := cX1_meanShrinkage) (maxL := 4) (by decide) rfl (Nat.le_of_ble_eq_true rfl) ?_
  intro p e s m below meth c A ls Q hx hb hml hown hts hlocks hA hin0 hw hl hret
  have hown : s.vm.findClass RX1 = some m.cls := hown
  have hl : lv_has ls 4 [(0, .ref b)] := hl
  have hi1 : ∀ w ∈ u_ws RX1 TX1 7, w ∈ wsX1_meanShrinkage := by decide +kernel
  refine lv_dconst0 hx hb dX1_meanShrinkage_0 ?_
  refine lv_dstore_n (lv' := [(1, .double FP.dconst0), (0, .ref b)]) hx hb dX1_meanShrinkage_1 rfl hl (by decide) rfl (fun ls hl => ?_)
  refine lv_iconst (v := 0) hx hb dX1_meanShrinkage_2 (by decide) ?_
  refine lv_istore_n (lv' := [(3, .int 0), (1, .double FP.dconst0), (0, .ref b)]) hx hb dX1_meanShrinkage_3 rfl hl (by decide) rfl (fun ls hl => ?_)
  have loop : ∀ (kf i : Nat), i + kf = n → ∀ (H : Heap) (locs : List Loc), ww G dA A s L f H locs → ∀ (ls : Array Slot), lv_has ls 4 [(0, .ref b), (1, .double (sumD (fun j => sp_shr (g j)) i)), (3, .int (nI i))] → W p l e ({ frames := 1, cells := 0, slots := 0, locals := 21 } : Room) s m ([.ref b] : List Value).toArray below meth c H locs 0 0 Q (F0 m 4 ls []) := by
    intro kf
    induction kf with
    | zero =>
      intro i hik H locs hw ls hl
      rw [show i = n by omega] at hl
      refine lv_iload_n hx hb dX1_meanShrinkage_4 rfl (lv_at hl 2 rfl) ?_
      refine lv_aload_n hx hb dX1_meanShrinkage_5 rfl (lv_at hl 0 rfl) ?_
      refine wg (C := RX1) (T := TX1) (N := 7) hx hb hts hi1 hown hw hLb hfb rfl 0 (by decide) (hts (.fieldLink RX1 9 "LayerMoisture$Board" "wetness" "[D") (by decide +kernel)) (fun _ h9 => h9) (v := .ref w) rfl dX1_meanShrinkage_6 ?_
      refine wlen hx hb 1 hw hLw hfw rfl dX1_meanShrinkage_9 ?_
      refine lv_icmp_ge (tgt := 31) hx hb dX1_meanShrinkage_10 (by decide) (fun _ => ?_) (fun c9 => absurd (nI_le (Nat.le_refl _) hn31) c9)
      refine lv_dload_n hx hb dX1_meanShrinkage_31 rfl (lv_at hl 1 rfl) ?_
      refine lv_aload_n hx hb dX1_meanShrinkage_32 rfl (lv_at hl 0 rfl) ?_
      refine wg (C := RX1) (T := TX1) (N := 7) hx hb hts hi1 hown hw hLb hfb rfl 0 (by decide) (hts (.fieldLink RX1 9 "LayerMoisture$Board" "wetness" "[D") (by decide +kernel)) (fun _ h9 => h9) (v := .ref w) rfl dX1_meanShrinkage_33 ?_
      refine wlen hx hb 1 hw hLw hfw rfl dX1_meanShrinkage_36 ?_
      refine lv_i2d hx hb dX1_meanShrinkage_37 ?_
      refine lv_ddiv hx hb dX1_meanShrinkage_38 hq ?_
      exact hret _ _ _ _ _ _ hw ⟨rfl, rfl⟩ dX1_meanShrinkage_39
    | succ kf ih =>
      intro i hik H locs hw ls hl
      have hlt : i < n := by omega
      refine lv_iload_n hx hb dX1_meanShrinkage_4 rfl (lv_at hl 2 rfl) ?_
      refine lv_aload_n hx hb dX1_meanShrinkage_5 rfl (lv_at hl 0 rfl) ?_
      refine wg (C := RX1) (T := TX1) (N := 7) hx hb hts hi1 hown hw hLb hfb rfl 0 (by decide) (hts (.fieldLink RX1 9 "LayerMoisture$Board" "wetness" "[D") (by decide +kernel)) (fun _ h9 => h9) (v := .ref w) rfl dX1_meanShrinkage_6 ?_
      refine wlen hx hb 1 hw hLw hfw rfl dX1_meanShrinkage_9 ?_
      refine lv_icmp_ge (tgt := 31) hx hb dX1_meanShrinkage_10 (by decide) (fun c9 => absurd c9 (nI_ge hlt hn31)) (fun _ => ?_)
      refine lv_dload_n hx hb dX1_meanShrinkage_13 rfl (lv_at hl 1 rfl) ?_
      refine lv_aload_n hx hb dX1_meanShrinkage_14 rfl (lv_at hl 0 rfl) ?_
      refine wg (C := RX1) (T := TX1) (N := 7) hx hb hts hi1 hown hw hLb hfb rfl 0 (by decide) (hts (.fieldLink RX1 9 "LayerMoisture$Board" "wetness" "[D") (by decide +kernel)) (fun _ h9 => h9) (v := .ref w) rfl dX1_meanShrinkage_15 ?_
      refine lv_iload_n hx hb dX1_meanShrinkage_18 rfl (lv_at hl 2 rfl) ?_
      refine wld_d hx hb hw hLw hfw i hlt hn31 rfl dX1_meanShrinkage_19 ?_
      refine kS_D (As := [.double (g i)]) (rest := [.double (sumD (fun j => sp_shr (g j)) i)]) ⟨hx, hb, hml, hown, hts⟩ (c_X1_shrinkage l G dA L f (g i) (hc1 i hlt) (hc2 i hlt)) (va_cwS 1 hts gX1_meanShrinkage_X1_shrinkage rfl rfl rfl (by decide +kernel) ⟨Nat.le_of_ble_eq_true rfl, Nat.le_of_ble_eq_true rfl⟩) hw hA rfl hl.1 rfl (Nat.le_of_ble_eq_true rfl) dX1_meanShrinkage_20 ⟨Nat.zero_le _, Nat.zero_le _⟩ (fun r1 f2 H locs hp hw => ?_)
      obtain ⟨e1, e2⟩ := hp
      rw [e2] at hw
      rw [e1]
      refine lv_dadd hx hb dX1_meanShrinkage_23 (hs i hlt) ?_
      refine lv_dstore_n (lv' := [(1, .double (FP.dadd (sumD (fun j => sp_shr (g j)) i) (sp_shr (g i)))), (0, .ref b), (3, .int (nI i))]) hx hb dX1_meanShrinkage_24 rfl hl (by decide) rfl (fun ls hl => ?_)
      refine lv_iinc (v := nI (i + 1)) (lv' := [(3, .int (nI (i + 1))), (1, .double (FP.dadd (sumD (fun j => sp_shr (g j)) i) (sp_shr (g i)))), (0, .ref b)]) hx hb dX1_meanShrinkage_25 hl (k := 2) rfl (nI_1 i) (by decide) rfl (fun ls hl => ?_)
      refine lv_goto (tgt := 4) hx hb dX1_meanShrinkage_28 (by decide) ?_
      exact ih (i + 1) (by omega) _ _ hw ls (lv_sub hl [2, 1, 0] rfl)
  exact loop n 0 (by omega) _ _ hw ls (lv_sub hl [2, 1, 0] rfl)

set_option maxHeartbeats 4000000 in
set_option maxRecDepth 100000 in
theorem c_X1_greatestLoad (l : Launch) (G : va_G) (dA : Nat → ClassId) (L : List Nat) (f : Nat → va_E) (b w k : Nat) (th lim kept : Int32) (dep load : UInt64) (n : Nat) (g : Nat → UInt64) (hLb : b ∈ L) (hfb : f b = .inr (2, [.ref w, .ref k, .int th, .double dep, .int lim, .double load, .int kept])) (hLw : w ∈ L) (hfw : f w = aD (dA 1) n g) (hn31 : n < 2 ^ 31) (hc1 : ∀ i, i < n → vf_n64 (FP.dsub 4599301119452119040 (sp_cut (g i)))) (hc2 : ∀ i, i < n → vf_n64 (FP.dmul 4598175219545276416 (FP.dsub 4599301119452119040 (sp_cut (g i))))) (hs : ∀ i, i < n → vf_n64 (FP.dadd (sumD (fun j => sp_shr (g j)) i) (sp_shr (g i)))) (hq : vf_n64 (FP.ddiv (sumD (fun j => sp_shr (g j)) n) (FP.i2d (nI n)))) (hst : ∀ i, i < n → vf_n64 (FP.dsub (sp_shr (g i)) (sp_mshr g n)))  : mD l yX1_greatestLoad wsX1_greatestLoad ({ frames := 2, cells := 0, slots := 0, locals := 44 }) G dA [.ref b] L f (fun r f2 => r = sp_load g n ∧ f2 = f) := by
  refine mD_of (cc := cX1_greatestLoad) (maxL := 10) (by decide) rfl (Nat.le_of_ble_eq_true rfl) ?_
  intro p e s m below meth c A ls Q hx hb hml hown hts hlocks hA hin0 hw hl hret
  have hown : s.vm.findClass RX1 = some m.cls := hown
  have hl : lv_has ls 10 [(0, .ref b)] := hl
  have hi1 : ∀ w ∈ u_ws RX1 TX1 7, w ∈ wsX1_greatestLoad := by decide +kernel
  refine lv_aload_n hx hb dX1_greatestLoad_0 rfl (lv_at hl 0 rfl) ?_
  refine kV_D (C := RX1) (T := TX1) (N := 7) (As := []) (rest := []) ⟨hx, hb, hml, hown, hts⟩ (c_X1_meanShrinkage l G dA L f b w k th lim kept dep load n g hLb hfb hLw hfw hn31 hc1 hc2 hs hq) (cwV 0 hts gX1_greatestLoad_X1_meanShrinkage rfl rfl rfl (by decide +kernel) ⟨Nat.le_of_ble_eq_true rfl, Nat.le_of_ble_eq_true rfl⟩) hw hA hLb hfb rfl rfl hl.1 rfl (Nat.le_of_ble_eq_true rfl) dX1_greatestLoad_1 ⟨Nat.zero_le _, Nat.zero_le _⟩ (fun r1 f2 H locs hp hw => ?_)
  obtain ⟨e1, e2⟩ := hp
  rw [e2] at hw
  rw [e1]
  refine lv_dstore_n (lv' := [(1, .double (sp_mshr g n)), (0, .ref b)]) hx hb dX1_greatestLoad_4 rfl hl (by decide) rfl (fun ls hl => ?_)
  refine lv_dconst0 hx hb dX1_greatestLoad_5 ?_
  refine lv_dstore_n (lv' := [(3, .double FP.dconst0), (1, .double (sp_mshr g n)), (0, .ref b)]) hx hb dX1_greatestLoad_6 rfl hl (by decide) rfl (fun ls hl => ?_)
  refine lv_iconst (v := 0) hx hb dX1_greatestLoad_7 (by decide) ?_
  refine lv_istore (lv' := [(5, .int 0), (3, .double FP.dconst0), (1, .double (sp_mshr g n)), (0, .ref b)]) hx hb dX1_greatestLoad_8 hl (by decide) rfl (fun ls hl => ?_)
  have loop : ∀ (kf i : Nat), i + kf = n → ∀ (H : Heap) (locs : List Loc), ww G dA A s L f H locs → ∀ (ls : Array Slot), lv_has ls 10 [(0, .ref b), (1, .double (sp_mshr g n)), (3, .double (maxD (fun j => sp_size (sp_stress g n j)) i)), (5, .int (nI i))] → W p l e ({ frames := 2, cells := 0, slots := 0, locals := 44 } : Room) s m ([.ref b] : List Value).toArray below meth c H locs 0 0 Q (F0 m 10 ls []) := by
    intro kf
    induction kf with
    | zero =>
      intro i hik H locs hw ls hl
      rw [show i = n by omega] at hl
      refine lv_iload hx hb dX1_greatestLoad_10 (lv_at hl 3 rfl) ?_
      refine lv_aload_n hx hb dX1_greatestLoad_12 rfl (lv_at hl 0 rfl) ?_
      refine wg (C := RX1) (T := TX1) (N := 7) hx hb hts hi1 hown hw hLb hfb rfl 0 (by decide) (hts (.fieldLink RX1 9 "LayerMoisture$Board" "wetness" "[D") (by decide +kernel)) (fun _ h9 => h9) (v := .ref w) rfl dX1_greatestLoad_13 ?_
      refine wlen hx hb 1 hw hLw hfw rfl dX1_greatestLoad_16 ?_
      refine lv_icmp_ge (tgt := 67) hx hb dX1_greatestLoad_17 (by decide) (fun _ => ?_) (fun c9 => absurd (nI_le (Nat.le_refl _) hn31) c9)
      refine lv_dload_n hx hb dX1_greatestLoad_67 rfl (lv_at hl 2 rfl) ?_
      exact hret _ _ _ _ _ _ hw ⟨rfl, rfl⟩ dX1_greatestLoad_68
    | succ kf ih =>
      intro i hik H locs hw ls hl
      have hlt : i < n := by omega
      refine lv_iload hx hb dX1_greatestLoad_10 (lv_at hl 3 rfl) ?_
      refine lv_aload_n hx hb dX1_greatestLoad_12 rfl (lv_at hl 0 rfl) ?_
      refine wg (C := RX1) (T := TX1) (N := 7) hx hb hts hi1 hown hw hLb hfb rfl 0 (by decide) (hts (.fieldLink RX1 9 "LayerMoisture$Board" "wetness" "[D") (by decide +kernel)) (fun _ h9 => h9) (v := .ref w) rfl dX1_greatestLoad_13 ?_
      refine wlen hx hb 1 hw hLw hfw rfl dX1_greatestLoad_16 ?_
      refine lv_icmp_ge (tgt := 67) hx hb dX1_greatestLoad_17 (by decide) (fun c9 => absurd c9 (nI_ge hlt hn31)) (fun _ => ?_)
      refine lv_aload_n hx hb dX1_greatestLoad_20 rfl (lv_at hl 0 rfl) ?_
      refine wg (C := RX1) (T := TX1) (N := 7) hx hb hts hi1 hown hw hLb hfb rfl 0 (by decide) (hts (.fieldLink RX1 9 "LayerMoisture$Board" "wetness" "[D") (by decide +kernel)) (fun _ h9 => h9) (v := .ref w) rfl dX1_greatestLoad_21 ?_
      refine lv_iload hx hb dX1_greatestLoad_24 (lv_at hl 3 rfl) ?_
      refine wld_d hx hb hw hLw hfw i hlt hn31 rfl dX1_greatestLoad_26 ?_
      refine kS_D (As := [.double (g i)]) (rest := []) ⟨hx, hb, hml, hown, hts⟩ (c_X1_shrinkage l G dA L f (g i) (hc1 i hlt) (hc2 i hlt)) (va_cwS 1 hts gX1_greatestLoad_X1_shrinkage rfl rfl rfl (by decide +kernel) ⟨Nat.le_of_ble_eq_true rfl, Nat.le_of_ble_eq_true rfl⟩) hw hA rfl hl.1 rfl (Nat.le_of_ble_eq_true rfl) dX1_greatestLoad_27 ⟨Nat.zero_le _, Nat.zero_le _⟩ (fun r3 f4 H locs hp hw => ?_)
      obtain ⟨e1, e2⟩ := hp
      rw [e2] at hw
      rw [e1]
      refine lv_dload_n hx hb dX1_greatestLoad_30 rfl (lv_at hl 1 rfl) ?_
      refine lv_dsub hx hb dX1_greatestLoad_31 (hst i hlt) ?_
      refine lv_dstore (lv' := [(6, .double (FP.dsub (sp_shr (g i)) (sp_mshr g n))), (0, .ref b), (1, .double (sp_mshr g n)), (3, .double (maxD (fun j => sp_size (sp_stress g n j)) i)), (5, .int (nI i))]) hx hb dX1_greatestLoad_32 hl (by decide) rfl (fun ls hl => ?_)
      refine lv_dload hx hb dX1_greatestLoad_34 (lv_at hl 0 rfl) ?_
      refine lv_dconst0 hx hb dX1_greatestLoad_36 ?_
      refine lv_dcmp hx hb dX1_greatestLoad_37 ?_
      refine lv_if_ge (tgt := 47) hx hb dX1_greatestLoad_38 (by decide) (fun c38 => ?_) (fun c38 => ?_)
      · have e38 : sp_size (sp_stress g n i) = FP.dsub (sp_shr (g i)) (sp_mshr g n) := by rw [sp_size, sp_stress]; exact if_neg (cmp_ge c38)
        refine lv_dload hx hb dX1_greatestLoad_47 (lv_at hl 0 rfl) ?_
        refine lv_dstore (lv' := [(8, .double (FP.dsub (sp_shr (g i)) (sp_mshr g n))), (6, .double (FP.dsub (sp_shr (g i)) (sp_mshr g n))), (0, .ref b), (1, .double (sp_mshr g n)), (3, .double (maxD (fun j => sp_size (sp_stress g n j)) i)), (5, .int (nI i))]) hx hb dX1_greatestLoad_49 hl (by decide) rfl (fun ls hl => ?_)
        refine lv_dload hx hb dX1_greatestLoad_51 (lv_at hl 0 rfl) ?_
        refine lv_dload_n hx hb dX1_greatestLoad_53 rfl (lv_at hl 4 rfl) ?_
        refine lv_dcmp hx hb dX1_greatestLoad_54 ?_
        refine lv_if_le (tgt := 61) hx hb dX1_greatestLoad_55 (by decide) (fun c55 => ?_) (fun c55 => ?_)
        · have e9 : maxD (fun j => sp_size (sp_stress g n j)) (i + 1) = maxD (fun j => sp_size (sp_stress g n j)) i := by have c55 := cmp_le c55; rw [← e38] at c55; exact if_neg c55
          refine lv_iinc (v := nI (i + 1)) (lv' := [(5, .int (nI (i + 1))), (8, .double (FP.dsub (sp_shr (g i)) (sp_mshr g n))), (6, .double (FP.dsub (sp_shr (g i)) (sp_mshr g n))), (0, .ref b), (1, .double (sp_mshr g n)), (3, .double (maxD (fun j => sp_size (sp_stress g n j)) i))]) hx hb dX1_greatestLoad_61 hl (k := 5) rfl (nI_1 i) (by decide) rfl (fun ls hl => ?_)
          refine lv_goto (tgt := 10) hx hb dX1_greatestLoad_64 (by decide) ?_
          exact ih (i + 1) (by omega) _ _ hw ls (by rw [e9]; exact lv_sub hl [3, 4, 5, 0] rfl)
        · have e9 : maxD (fun j => sp_size (sp_stress g n j)) (i + 1) = sp_size (sp_stress g n i) := by have c55 := cmp_nle c55; rw [← e38] at c55; exact if_pos c55
          rw [e38] at e9
          refine lv_dload hx hb dX1_greatestLoad_58 (lv_at hl 0 rfl) ?_
          refine lv_dstore_n (lv' := [(3, .double (FP.dsub (sp_shr (g i)) (sp_mshr g n))), (8, .double (FP.dsub (sp_shr (g i)) (sp_mshr g n))), (6, .double (FP.dsub (sp_shr (g i)) (sp_mshr g n))), (0, .ref b), (1, .double (sp_mshr g n)), (5, .int (nI i))]) hx hb dX1_greatestLoad_60 rfl hl (by decide) rfl (fun ls hl => ?_)
          refine lv_iinc (v := nI (i + 1)) (lv' := [(5, .int (nI (i + 1))), (3, .double (FP.dsub (sp_shr (g i)) (sp_mshr g n))), (8, .double (FP.dsub (sp_shr (g i)) (sp_mshr g n))), (6, .double (FP.dsub (sp_shr (g i)) (sp_mshr g n))), (0, .ref b), (1, .double (sp_mshr g n))]) hx hb dX1_greatestLoad_61 hl (k := 5) rfl (nI_1 i) (by decide) rfl (fun ls hl => ?_)
          refine lv_goto (tgt := 10) hx hb dX1_greatestLoad_64 (by decide) ?_
          exact ih (i + 1) (by omega) _ _ hw ls (by rw [e9]; exact lv_sub hl [4, 5, 1, 0] rfl)
      · have e38 : sp_size (sp_stress g n i) = FP.dneg (FP.dsub (sp_shr (g i)) (sp_mshr g n)) := by rw [sp_size, sp_stress]; exact if_pos (cmp_nge c38)
        refine lv_dload hx hb dX1_greatestLoad_41 (lv_at hl 0 rfl) ?_
        refine lv_dneg hx hb dX1_greatestLoad_43 ?_
        refine lv_goto (tgt := 49) hx hb dX1_greatestLoad_44 (by decide) ?_
        refine lv_dstore (lv' := [(8, .double (FP.dneg (FP.dsub (sp_shr (g i)) (sp_mshr g n)))), (6, .double (FP.dsub (sp_shr (g i)) (sp_mshr g n))), (0, .ref b), (1, .double (sp_mshr g n)), (3, .double (maxD (fun j => sp_size (sp_stress g n j)) i)), (5, .int (nI i))]) hx hb dX1_greatestLoad_49 hl (by decide) rfl (fun ls hl => ?_)
        refine lv_dload hx hb dX1_greatestLoad_51 (lv_at hl 0 rfl) ?_
        refine lv_dload_n hx hb dX1_greatestLoad_53 rfl (lv_at hl 4 rfl) ?_
        refine lv_dcmp hx hb dX1_greatestLoad_54 ?_
        refine lv_if_le (tgt := 61) hx hb dX1_greatestLoad_55 (by decide) (fun c55 => ?_) (fun c55 => ?_)
        · have e9 : maxD (fun j => sp_size (sp_stress g n j)) (i + 1) = maxD (fun j => sp_size (sp_stress g n j)) i := by have c55 := cmp_le c55; rw [← e38] at c55; exact if_neg c55
          refine lv_iinc (v := nI (i + 1)) (lv' := [(5, .int (nI (i + 1))), (8, .double (FP.dneg (FP.dsub (sp_shr (g i)) (sp_mshr g n)))), (6, .double (FP.dsub (sp_shr (g i)) (sp_mshr g n))), (0, .ref b), (1, .double (sp_mshr g n)), (3, .double (maxD (fun j => sp_size (sp_stress g n j)) i))]) hx hb dX1_greatestLoad_61 hl (k := 5) rfl (nI_1 i) (by decide) rfl (fun ls hl => ?_)
          refine lv_goto (tgt := 10) hx hb dX1_greatestLoad_64 (by decide) ?_
          exact ih (i + 1) (by omega) _ _ hw ls (by rw [e9]; exact lv_sub hl [3, 4, 5, 0] rfl)
        · have e9 : maxD (fun j => sp_size (sp_stress g n j)) (i + 1) = sp_size (sp_stress g n i) := by have c55 := cmp_nle c55; rw [← e38] at c55; exact if_pos c55
          rw [e38] at e9
          refine lv_dload hx hb dX1_greatestLoad_58 (lv_at hl 0 rfl) ?_
          refine lv_dstore_n (lv' := [(3, .double (FP.dneg (FP.dsub (sp_shr (g i)) (sp_mshr g n)))), (8, .double (FP.dneg (FP.dsub (sp_shr (g i)) (sp_mshr g n)))), (6, .double (FP.dsub (sp_shr (g i)) (sp_mshr g n))), (0, .ref b), (1, .double (sp_mshr g n)), (5, .int (nI i))]) hx hb dX1_greatestLoad_60 rfl hl (by decide) rfl (fun ls hl => ?_)
          refine lv_iinc (v := nI (i + 1)) (lv' := [(5, .int (nI (i + 1))), (3, .double (FP.dneg (FP.dsub (sp_shr (g i)) (sp_mshr g n)))), (8, .double (FP.dneg (FP.dsub (sp_shr (g i)) (sp_mshr g n)))), (6, .double (FP.dsub (sp_shr (g i)) (sp_mshr g n))), (0, .ref b), (1, .double (sp_mshr g n))]) hx hb dX1_greatestLoad_61 hl (k := 5) rfl (nI_1 i) (by decide) rfl (fun ls hl => ?_)
          refine lv_goto (tgt := 10) hx hb dX1_greatestLoad_64 (by decide) ?_
          exact ih (i + 1) (by omega) _ _ hw ls (by rw [e9]; exact lv_sub hl [4, 5, 1, 0] rfl)
  exact loop n 0 (by omega) _ _ hw ls (lv_sub hl [3, 2, 1, 0] rfl)

set_option maxHeartbeats 4000000 in
set_option maxRecDepth 100000 in
theorem c_X1_watchLoad (l : Launch) (G : va_G) (dA : Nat → ClassId) (L : List Nat) (f : Nat → va_E) (b w k : Nat) (th lim kept : Int32) (dep load : UInt64) (n : Nat) (g : Nat → UInt64) (hour : Int32) (hLb : b ∈ L) (hfb : f b = .inr (2, [.ref w, .ref k, .int th, .double dep, .int lim, .double load, .int kept])) (hLw : w ∈ L) (hfw : f w = aD (dA 1) n g) (hn31 : n < 2 ^ 31) (hc1 : ∀ i, i < n → vf_n64 (FP.dsub 4599301119452119040 (sp_cut (g i)))) (hc2 : ∀ i, i < n → vf_n64 (FP.dmul 4598175219545276416 (FP.dsub 4599301119452119040 (sp_cut (g i))))) (hs : ∀ i, i < n → vf_n64 (FP.dadd (sumD (fun j => sp_shr (g j)) i) (sp_shr (g i)))) (hq : vf_n64 (FP.ddiv (sumD (fun j => sp_shr (g j)) n) (FP.i2d (nI n)))) (hst : ∀ i, i < n → vf_n64 (FP.dsub (sp_shr (g i)) (sp_mshr g n)))  : mV l yX1_watchLoad wsX1_watchLoad ({ frames := 3, cells := 0, slots := 0, locals := 73 }) G dA [.ref b, .int hour] L f (fun f2 => f2 = va_up f b (.inr (2, [.ref w, .ref k, .int th, .double dep, .int lim, .double load, .int (sp_keep lim kept (sp_load g n) load hour)]))) := by
  refine mV_of (cc := cX1_watchLoad) (maxL := 2) (by decide) rfl (Nat.le_of_ble_eq_true rfl) ?_
  intro p e s m below meth c A ls Q hx hb hml hown hts hlocks hA hin0 hw hl hret
  have hown : s.vm.findClass RX1 = some m.cls := hown
  have hl : lv_has ls 2 [(0, .ref b), (1, .int hour)] := hl
  have hi1 : ∀ w ∈ u_ws RX1 TX1 7, w ∈ wsX1_watchLoad := by decide +kernel
  refine lv_aload_n hx hb dX1_watchLoad_0 rfl (lv_at hl 0 rfl) ?_
  refine wg (C := RX1) (T := TX1) (N := 7) hx hb hts hi1 hown hw hLb hfb rfl 4 (by decide) (hts (.fieldLink RX1 27 "LayerMoisture$Board" "limited" "Z") (by decide +kernel)) (fun _ h9 => h9) (v := .int lim) rfl dX1_watchLoad_1 ?_
  refine lv_if_eq (tgt := 32) hx hb dX1_watchLoad_4 (by decide) (fun c4 => ?_) (fun c4 => ?_)
  · have e9 : sp_keep lim kept (sp_load g n) load hour = kept := by simp [sp_keep, c4]
    exact hret _ _ _ _ _ hw (by rw [e9]; exact (va_up_id hfb).symm) dX1_watchLoad_32
  · refine lv_aload_n hx hb dX1_watchLoad_7 rfl (lv_at hl 0 rfl) ?_
    refine wg (C := RX1) (T := TX1) (N := 7) hx hb hts hi1 hown hw hLb hfb rfl 6 (by decide) (hts (.fieldLink RX1 30 "LayerMoisture$Board" "keptHour" "I") (by decide +kernel)) (fun _ h9 => h9) (v := .int kept) rfl dX1_watchLoad_8 ?_
    refine lv_iconst (v := (-1)) hx hb dX1_watchLoad_11 (by decide) ?_
    refine lv_icmp_ne (tgt := 32) hx hb dX1_watchLoad_12 (by decide) (fun c12 => ?_) (fun c12 => ?_)
    · have e9 : sp_keep lim kept (sp_load g n) load hour = kept := by simp [sp_keep, c12]
      exact hret _ _ _ _ _ hw (by rw [e9]; exact (va_up_id hfb).symm) dX1_watchLoad_32
    · refine lv_aload_n hx hb dX1_watchLoad_15 rfl (lv_at hl 0 rfl) ?_
      refine kV_D (C := RX1) (T := TX1) (N := 7) (As := []) (rest := []) ⟨hx, hb, hml, hown, hts⟩ (c_X1_greatestLoad l G dA L f b w k th lim kept dep load n g hLb hfb hLw hfw hn31 hc1 hc2 hs hq hst) (cwV 0 hts gX1_watchLoad_X1_greatestLoad rfl rfl rfl (by decide +kernel) ⟨Nat.le_of_ble_eq_true rfl, Nat.le_of_ble_eq_true rfl⟩) hw hA hLb hfb rfl rfl hl.1 rfl (Nat.le_of_ble_eq_true rfl) dX1_watchLoad_16 ⟨Nat.zero_le _, Nat.zero_le _⟩ (fun r1 f2 H locs hp hw => ?_)
      obtain ⟨e1, e2⟩ := hp
      rw [e2] at hw
      rw [e1]
      refine lv_aload_n hx hb dX1_watchLoad_19 rfl (lv_at hl 0 rfl) ?_
      refine wg (C := RX1) (T := TX1) (N := 7) hx hb hts hi1 hown hw hLb hfb rfl 5 (by decide) (hts (.fieldLink RX1 34 "LayerMoisture$Board" "loadLimit" "D") (by decide +kernel)) (fun _ h9 => h9) (v := .double load) rfl dX1_watchLoad_20 ?_
      refine lv_dcmp hx hb dX1_watchLoad_23 ?_
      refine lv_if_le (tgt := 32) hx hb dX1_watchLoad_24 (by decide) (fun c24 => ?_) (fun c24 => ?_)
      · have e9 : sp_keep lim kept (sp_load g n) load hour = kept := by simp [sp_keep, cmp_le c24]
        exact hret _ _ _ _ _ hw (by rw [e9]; exact (va_up_id hfb).symm) dX1_watchLoad_32
      · have e9 : sp_keep lim kept (sp_load g n) load hour = hour := by simp [sp_keep, c4, c12, cmp_nle c24]
        refine lv_aload_n hx hb dX1_watchLoad_27 rfl (lv_at hl 0 rfl) ?_
        refine lv_iload_n hx hb dX1_watchLoad_28 rfl (lv_at hl 1 rfl) ?_
        refine wp_ (C := RX1) (T := TX1) (N := 7) hx hb hts hi1 tyX1 tyX1_ok nmX1 hown hw hLb hfb rfl 6 (by decide) (hts (.fieldLink RX1 30 "LayerMoisture$Board" "keptHour" "I") (by decide +kernel)) (fun _ h9 => h9) rfl (ty := .int) (v := .int hour) (by decide +kernel) rfl rfl (Nat.le_of_ble_eq_true rfl) dX1_watchLoad_29 (fun H locs hw => ?_)
        obtain ⟨f3, ef3⟩ : ∃ z : Nat → va_E, z = va_up f b (.inr (2, [.ref w, .ref k, .int th, .double dep, .int lim, .double load, .int hour])) := ⟨_, rfl⟩
        have hw : ww G dA A s L f3 H locs := by rw [ef3]; exact hw
        have h4 : f3 b = .inr (2, [.ref w, .ref k, .int th, .double dep, .int lim, .double load, .int hour]) := by rw [ef3]; exact va_up_self _ _ _
        have h5 : f3 w = aD (dA 1) n g := by rw [ef3, va_up_ne _ _ (fun h => by have h1 := hfw; rw [h, hfb] at h1; cases h1)]; exact hfw
        exact hret _ _ _ _ _ hw (by rw [e9, ef3]) dX1_watchLoad_32

set_option maxHeartbeats 4000000 in
set_option maxRecDepth 100000 in
theorem c_X1_refuses (l : Launch) (G : va_G) (dA : Nat → ClassId) (L : List Nat) (f : Nat → va_E) (b w k : Nat) (th lim kept : Int32) (dep load : UInt64) (n : Nat) (g : Nat → UInt64) (spd ka kb : UInt64) (hLb : b ∈ L) (hfb : f b = .inr (2, [.ref w, .ref k, .int th, .double dep, .int lim, .double load, .int kept])) (hLw : w ∈ L) (hfw : f w = aD (dA 1) n g) (hLk : k ∈ L) (hfk : f k = .inr (3, [.double ka, .double kb])) (hn31 : n < 2 ^ 31) (hr1 : vf_n64 (FP.dmul 4620693217682128896 dep)) (hr2 : vf_n64 (FP.ddiv spd (FP.dmul 4620693217682128896 dep))) (hr3 : vf_n64 (FP.dmul dep dep)) (hr4 : vf_n64 (FP.ddiv (sp_speed ka kb (maxD g n)) (FP.dmul dep dep))) (hr5 : vf_n64 (FP.dmul kb (maxD g n))) (hr6 : vf_n64 (FP.dadd ka (FP.dmul kb (maxD g n))))  : mI l yX1_refuses wsX1_refuses ({ frames := 1, cells := 0, slots := 0, locals := 23 }) G dA [.ref b, .double spd] L f (fun r f2 => r = b2i (sp_ref spd dep ka kb (maxD g n)) ∧ f2 = f) := by
  refine mI_of (cc := cX1_refuses) (maxL := 3) (by decide) rfl (Nat.le_of_ble_eq_true rfl) ?_
  intro p e s m below meth c A ls Q hx hb hml hown hts hlocks hA hin0 hw hl hret
  have hown : s.vm.findClass RX1 = some m.cls := hown
  have hl : lv_has ls 3 [(0, .ref b), (1, .double spd)] := hl
  have hi1 : ∀ w ∈ u_ws RX1 TX1 7, w ∈ wsX1_refuses := by decide +kernel
  refine lv_dload_n hx hb dX1_refuses_0 rfl (lv_at hl 1 rfl) ?_
  refine lv_ldc2d (v := 4620693217682128896) hx hb hown (hts (.constantDouble RX1 37 (4620693217682128896)) (by decide +kernel)) dX1_refuses_1 ?_
  refine lv_aload_n hx hb dX1_refuses_4 rfl (lv_at hl 0 rfl) ?_
  refine wg (C := RX1) (T := TX1) (N := 7) hx hb hts hi1 hown hw hLb hfb rfl 3 (by decide) (hts (.fieldLink RX1 23 "LayerMoisture$Board" "depth" "D") (by decide +kernel)) (fun _ h9 => h9) (v := .double dep) rfl dX1_refuses_5 ?_
  refine lv_dmul hx hb dX1_refuses_8 hr1 ?_
  refine lv_ddiv hx hb dX1_refuses_9 hr2 ?_
  refine lv_ldc2d (v := 4598175219545276416) hx hb hown (hts (.constantDouble RX1 39 (4598175219545276416)) (by decide +kernel)) dX1_refuses_10 ?_
  refine lv_dcmp hx hb dX1_refuses_13 ?_
  refine lv_if_gt (tgt := 45) hx hb dX1_refuses_14 (by decide) (fun c14 => ?_) (fun c14 => ?_)
  · have e9 : sp_ref spd dep ka kb (maxD g n) = true := by simp [sp_ref, cmp_gt c14]
    refine lv_iconst (v := 1) hx hb dX1_refuses_45 (by decide) ?_
    refine lv_goto (tgt := 50) hx hb dX1_refuses_46 (by decide) ?_
    exact hret _ _ _ _ _ _ hw ⟨by rw [e9]; rfl, rfl⟩ (by decide) dX1_refuses_50
  · have q14 := cmp_ngt c14
    refine lv_aload_n hx hb dX1_refuses_17 rfl (lv_at hl 0 rfl) ?_
    refine wg (C := RX1) (T := TX1) (N := 7) hx hb hts hi1 hown hw hLb hfb rfl 1 (by decide) (hts (.fieldLink RX1 15 "LayerMoisture$Board" "kind" "LLayerMoisture$Kind;") (by decide +kernel)) (fun _ h9 => h9) (v := .ref k) rfl dX1_refuses_18 ?_
    refine lv_aload_n hx hb dX1_refuses_21 rfl (lv_at hl 0 rfl) ?_
    refine kV_D (C := RX1) (T := TX1) (N := 7) (As := []) (rest := [.ref k]) ⟨hx, hb, hml, hown, hts⟩ (c_X1_greatestWetness l G dA L f b w k th lim kept dep load n g hLb hfb hLw hfw hn31) (cwV 0 hts gX1_refuses_X1_greatestWetness rfl rfl rfl (by decide +kernel) ⟨Nat.le_of_ble_eq_true rfl, Nat.le_of_ble_eq_true rfl⟩) hw hA hLb hfb rfl rfl hl.1 rfl (Nat.le_of_ble_eq_true rfl) dX1_refuses_22 ⟨Nat.zero_le _, Nat.zero_le _⟩ (fun r1 f2 H locs hp hw => ?_)
    obtain ⟨e1, e2⟩ := hp
    rw [e2] at hw
    rw [e1]
    refine kV_D (C := RX2) (T := TX2) (N := 2) (As := [.double (maxD g n)]) (rest := []) ⟨hx, hb, hml, hown, hts⟩ (c_X2_speedAt l G dA L f k ka kb (maxD g n) hLk hfk hr5 hr6) (cwV 1 hts gX1_refuses_X2_speedAt rfl rfl rfl (by decide +kernel) ⟨Nat.le_of_ble_eq_true rfl, Nat.le_of_ble_eq_true rfl⟩) hw hA hLk hfk rfl rfl hl.1 rfl (Nat.le_of_ble_eq_true rfl) dX1_refuses_25 ⟨Nat.zero_le _, Nat.zero_le _⟩ (fun r3 f4 H locs hp hw => ?_)
    obtain ⟨e1, e2⟩ := hp
    rw [e2] at hw
    rw [e1]
    refine lv_aload_n hx hb dX1_refuses_28 rfl (lv_at hl 0 rfl) ?_
    refine wg (C := RX1) (T := TX1) (N := 7) hx hb hts hi1 hown hw hLb hfb rfl 3 (by decide) (hts (.fieldLink RX1 23 "LayerMoisture$Board" "depth" "D") (by decide +kernel)) (fun _ h9 => h9) (v := .double dep) rfl dX1_refuses_29 ?_
    refine lv_aload_n hx hb dX1_refuses_32 rfl (lv_at hl 0 rfl) ?_
    refine wg (C := RX1) (T := TX1) (N := 7) hx hb hts hi1 hown hw hLb hfb rfl 3 (by decide) (hts (.fieldLink RX1 23 "LayerMoisture$Board" "depth" "D") (by decide +kernel)) (fun _ h9 => h9) (v := .double dep) rfl dX1_refuses_33 ?_
    refine lv_dmul hx hb dX1_refuses_36 hr3 ?_
    refine lv_ddiv hx hb dX1_refuses_37 hr4 ?_
    refine lv_ldc2d (v := 4598175219545276416) hx hb hown (hts (.constantDouble RX1 39 (4598175219545276416)) (by decide +kernel)) dX1_refuses_38 ?_
    refine lv_dcmp hx hb dX1_refuses_41 ?_
    refine lv_if_le (tgt := 49) hx hb dX1_refuses_42 (by decide) (fun c42 => ?_) (fun c42 => ?_)
    · have e9 : sp_ref spd dep ka kb (maxD g n) = false := by simp [sp_ref, q14, cmp_le c42]
      refine lv_iconst (v := 0) hx hb dX1_refuses_49 (by decide) ?_
      exact hret _ _ _ _ _ _ hw ⟨by rw [e9]; rfl, rfl⟩ (by decide) dX1_refuses_50
    · have e9 : sp_ref spd dep ka kb (maxD g n) = true := by simp [sp_ref, cmp_nle c42]
      refine lv_iconst (v := 1) hx hb dX1_refuses_45 (by decide) ?_
      refine lv_goto (tgt := 50) hx hb dX1_refuses_46 (by decide) ?_
      exact hret _ _ _ _ _ _ hw ⟨by rw [e9]; rfl, rfl⟩ (by decide) dX1_refuses_50

set_option maxHeartbeats 4000000 in
set_option maxRecDepth 100000 in
theorem c_X1_dry (l : Launch) (G : va_G) (dA : Nat → ClassId) (L : List Nat) (f : Nat → va_E) (b w k : Nat) (th lim kept : Int32) (dep load : UInt64) (nl : Nat) (g : Nat → UInt64) (spd bal ka kb : UInt64) (hLb : b ∈ L) (hfb : f b = .inr (2, [.ref w, .ref k, .int th, .double dep, .int lim, .double load, .int kept])) (hLw : w ∈ L) (hfw : f w = aD (dA 1) (nl + 1) g) (hLk : k ∈ L) (hfk : f k = .inr (3, [.double ka, .double kb])) (hn31 : nl + 1 < 2 ^ 31) (hwb : w ≠ b) (hbw : b ≠ w) (hkw : k ≠ w) (hr1 : vf_n64 (FP.dmul 4620693217682128896 dep)) (hr3 : vf_n64 (FP.dmul dep dep)) (hf1 : vf_n64 (FP.dsub (g 0) bal)) (hf2 : vf_n64 (FP.dmul spd (FP.dsub (g 0) bal))) (hf3 : vf_n64 (FP.ddiv (FP.dmul spd (FP.dsub (g 0) bal)) (FP.dmul 4620693217682128896 dep))) (hf1' : vf_n64 (FP.dsub (g nl) bal)) (hf2' : vf_n64 (FP.dmul spd (FP.dsub (g nl) bal))) (hf3' : vf_n64 (FP.ddiv (FP.dmul spd (FP.dsub (g nl) bal)) (FP.dmul 4620693217682128896 dep))) (hs1 : ∀ i, i < nl → vf_n64 (FP.dadd (g i) (g (i + 1)))) (hs2 : ∀ i, i < nl → vf_n64 (FP.ddiv (FP.dadd (g i) (g (i + 1))) 4611686018427387904)) (hs3 : ∀ i, i < nl → vf_n64 (FP.dmul kb (FP.ddiv (FP.dadd (g i) (g (i + 1))) 4611686018427387904))) (hs4 : ∀ i, i < nl → vf_n64 (FP.dadd ka (FP.dmul kb (FP.ddiv (FP.dadd (g i) (g (i + 1))) 4611686018427387904)))) (hs5 : ∀ i, i < nl → vf_n64 (FP.dsub (g i) (g (i + 1)))) (hs6 : ∀ i, i < nl → vf_n64 (FP.dmul (sp_speed ka kb (FP.ddiv (FP.dadd (g i) (g (i + 1))) 4611686018427387904)) (FP.dsub (g i) (g (i + 1))))) (hs7 : ∀ i, i < nl → vf_n64 (sp_slope ka kb dep (g i) (g (i + 1)))) (hd1 : ∀ i, i < nl + 1 → vf_n64 (FP.dadd (g i) (sp_gain ka kb dep (sp_face dep (g 0) spd bal) (sp_face dep (g nl) spd bal) g nl i))) (hd2 : ∀ i, i < nl + 1 → vf_n64 (FP.dsub (FP.dadd (g i) (sp_gain ka kb dep (sp_face dep (g 0) spd bal) (sp_face dep (g nl) spd bal) g nl i)) (sp_fl ka kb dep (sp_face dep (g nl) spd bal) g nl i))) (hw1 : vf_n64 (FP.dadd (sp_face dep (g 0) spd bal) (sp_face dep (g nl) spd bal))) (hw2 : vf_n64 (FP.dmul (FP.dadd (sp_face dep (g 0) spd bal) (sp_face dep (g nl) spd bal)) dep)) (hw3 : vf_n64 (FP.dmul (FP.dmul (FP.dadd (sp_face dep (g 0) spd bal) (sp_face dep (g nl) spd bal)) dep) 4634204016564240384))  : mD l yX1_dry wsX1_dry ({ frames := 2, cells := 0, slots := 0, locals := 46 }) G dA [.ref b, .double spd, .double bal] L f (fun r f2 => r = FP.dmul (FP.dmul (FP.dadd (sp_face dep (g 0) spd bal) (sp_face dep (g nl) spd bal)) dep) 4634204016564240384 ∧ f2 = va_up f w (aD (dA 1) (nl + 1) (newTo ka kb dep (sp_face dep (g 0) spd bal) (sp_face dep (g nl) spd bal) g nl (nl + 1)))) := by
  refine mD_of (cc := cX1_dry) (maxL := 15) (by decide) rfl (Nat.le_of_ble_eq_true rfl) ?_
  intro p e s m below meth c A ls Q hx hb hml hown hts hlocks hA hin0 hw hl hret
  have hown : s.vm.findClass RX1 = some m.cls := hown
  have hl : lv_has ls 15 [(0, .ref b), (1, .double spd), (3, .double bal)] := hl
  have hi1 : ∀ w ∈ u_ws RX1 TX1 7, w ∈ wsX1_dry := by decide +kernel
  refine lv_aload_n hx hb dX1_dry_0 rfl (lv_at hl 0 rfl) ?_
  refine wg (C := RX1) (T := TX1) (N := 7) hx hb hts hi1 hown hw hLb hfb rfl 0 (by decide) (hts (.fieldLink RX1 9 "LayerMoisture$Board" "wetness" "[D") (by decide +kernel)) (fun _ h9 => h9) (v := .ref w) rfl dX1_dry_1 ?_
  refine wlen hx hb 1 hw hLw hfw rfl dX1_dry_4 ?_
  refine lv_iconst (v := 1) hx hb dX1_dry_5 (by decide) ?_
  refine lv_isub hx hb dX1_dry_6 ?_
  rw [show (nI (nl + 1)) - 1 = nI nl from nI_pred nl]
  refine lv_istore (lv' := [(5, .int (nI nl)), (0, .ref b), (1, .double spd), (3, .double bal)]) hx hb dX1_dry_7 hl (by decide) rfl (fun ls hl => ?_)
  refine lv_aload_n hx hb dX1_dry_9 rfl (lv_at hl 1 rfl) ?_
  refine lv_aload_n hx hb dX1_dry_10 rfl (lv_at hl 1 rfl) ?_
  refine wg (C := RX1) (T := TX1) (N := 7) hx hb hts hi1 hown hw hLb hfb rfl 0 (by decide) (hts (.fieldLink RX1 9 "LayerMoisture$Board" "wetness" "[D") (by decide +kernel)) (fun _ h9 => h9) (v := .ref w) rfl dX1_dry_11 ?_
  refine lv_iconst (v := 0) hx hb dX1_dry_14 (by decide) ?_
  refine wld_d hx hb hw hLw hfw 0 (Nat.succ_pos nl) hn31 nI_0.symm dX1_dry_15 ?_
  refine lv_dload_n hx hb dX1_dry_16 rfl (lv_at hl 2 rfl) ?_
  refine lv_dload_n hx hb dX1_dry_17 rfl (lv_at hl 3 rfl) ?_
  refine kV_D (C := RX1) (T := TX1) (N := 7) (As := [.double (g 0), .double spd, .double bal]) (rest := []) ⟨hx, hb, hml, hown, hts⟩ (c_X1_faceFlow l G dA L f b w k th lim kept dep load (g 0) spd bal hLb hfb hf1 hf2 hr1 hf3) (cwV 3 hts gX1_dry_X1_faceFlow rfl rfl rfl (by decide +kernel) ⟨Nat.le_of_ble_eq_true rfl, Nat.le_of_ble_eq_true rfl⟩) hw hA hLb hfb rfl rfl hl.1 rfl (Nat.le_of_ble_eq_true rfl) dX1_dry_18 ⟨Nat.zero_le _, Nat.zero_le _⟩ (fun r1 f2 H locs hp hw => ?_)
  obtain ⟨e1, e2⟩ := hp
  rw [e2] at hw
  rw [e1]
  refine lv_dstore (lv' := [(6, .double (sp_face dep (g 0) spd bal)), (5, .int (nI nl)), (0, .ref b), (1, .double spd), (3, .double bal)]) hx hb dX1_dry_21 hl (by decide) rfl (fun ls hl => ?_)
  refine lv_aload_n hx hb dX1_dry_23 rfl (lv_at hl 2 rfl) ?_
  refine lv_aload_n hx hb dX1_dry_24 rfl (lv_at hl 2 rfl) ?_
  refine wg (C := RX1) (T := TX1) (N := 7) hx hb hts hi1 hown hw hLb hfb rfl 0 (by decide) (hts (.fieldLink RX1 9 "LayerMoisture$Board" "wetness" "[D") (by decide +kernel)) (fun _ h9 => h9) (v := .ref w) rfl dX1_dry_25 ?_
  refine lv_iload hx hb dX1_dry_28 (lv_at hl 1 rfl) ?_
  refine wld_d hx hb hw hLw hfw nl (Nat.lt_succ_self nl) hn31 rfl dX1_dry_30 ?_
  refine lv_dload_n hx hb dX1_dry_31 rfl (lv_at hl 3 rfl) ?_
  refine lv_dload_n hx hb dX1_dry_32 rfl (lv_at hl 4 rfl) ?_
  refine kV_D (C := RX1) (T := TX1) (N := 7) (As := [.double (g nl), .double spd, .double bal]) (rest := []) ⟨hx, hb, hml, hown, hts⟩ (c_X1_faceFlow l G dA L f b w k th lim kept dep load (g nl) spd bal hLb hfb hf1' hf2' hr1 hf3') (cwV 3 hts gX1_dry_X1_faceFlow rfl rfl rfl (by decide +kernel) ⟨Nat.le_of_ble_eq_true rfl, Nat.le_of_ble_eq_true rfl⟩) hw hA hLb hfb rfl rfl hl.1 rfl (Nat.le_of_ble_eq_true rfl) dX1_dry_33 ⟨Nat.zero_le _, Nat.zero_le _⟩ (fun r3 f4 H locs hp hw => ?_)
  obtain ⟨e1, e2⟩ := hp
  rw [e2] at hw
  rw [e1]
  refine lv_dstore (lv' := [(8, .double (sp_face dep (g nl) spd bal)), (6, .double (sp_face dep (g 0) spd bal)), (5, .int (nI nl)), (0, .ref b), (1, .double spd), (3, .double bal)]) hx hb dX1_dry_36 hl (by decide) rfl (fun ls hl => ?_)
  refine lv_dload hx hb dX1_dry_38 (lv_at hl 1 rfl) ?_
  refine lv_dneg hx hb dX1_dry_40 ?_
  refine lv_dstore (lv' := [(10, .double (FP.dneg (sp_face dep (g 0) spd bal))), (8, .double (sp_face dep (g nl) spd bal)), (6, .double (sp_face dep (g 0) spd bal)), (5, .int (nI nl)), (0, .ref b), (1, .double spd), (3, .double bal)]) hx hb dX1_dry_41 hl (by decide) rfl (fun ls hl => ?_)
  refine lv_iconst (v := 0) hx hb dX1_dry_43 (by decide) ?_
  refine lv_istore (lv' := [(12, .int 0), (10, .double (FP.dneg (sp_face dep (g 0) spd bal))), (8, .double (sp_face dep (g nl) spd bal)), (6, .double (sp_face dep (g 0) spd bal)), (5, .int (nI nl)), (0, .ref b), (1, .double spd), (3, .double bal)]) hx hb dX1_dry_44 hl (by decide) rfl (fun ls hl => ?_)
  have loop : ∀ (kf i : Nat), i + kf = nl + 1 → ∀ (H : Heap) (locs : List Loc), ww G dA A s L (va_up f w (aD (dA 1) (nl + 1) (newTo ka kb dep (sp_face dep (g 0) spd bal) (sp_face dep (g nl) spd bal) g nl i))) H locs → ∀ (ls : Array Slot), lv_has ls 15 [(0, .ref b), (1, .double spd), (3, .double bal), (5, .int (nI nl)), (6, .double (sp_face dep (g 0) spd bal)), (8, .double (sp_face dep (g nl) spd bal)), (10, .double (sp_gain ka kb dep (sp_face dep (g 0) spd bal) (sp_face dep (g nl) spd bal) g nl i)), (12, .int (nI i))] → W p l e ({ frames := 2, cells := 0, slots := 0, locals := 46 } : Room) s m ([.ref b, .double spd, .double bal] : List Value).toArray below meth c H locs 0 0 Q (F0 m 46 ls []) := by
    intro kf
    induction kf with
    | zero =>
      intro i hik H locs hw ls hl
      rw [show i = nl + 1 by omega] at hl hw
      obtain ⟨f5, ef5⟩ : ∃ z : Nat → va_E, z = va_up f w (aD (dA 1) (nl + 1) (newTo ka kb dep (sp_face dep (g 0) spd bal) (sp_face dep (g nl) spd bal) g nl (nl + 1))) := ⟨_, rfl⟩
      have hw : ww G dA A s L f5 H locs := by rw [ef5]; exact hw
      have h6 : f5 b = .inr (2, [.ref w, .ref k, .int th, .double dep, .int lim, .double load, .int kept]) := by rw [ef5, va_up_ne _ _ hbw]; exact hfb
      have h7 : f5 w = aD (dA 1) (nl + 1) (newTo ka kb dep (sp_face dep (g 0) spd bal) (sp_face dep (g nl) spd bal) g nl (nl + 1)) := by rw [ef5]; exact va_up_self _ _ _
      have h8 : f5 k = .inr (3, [.double ka, .double kb]) := by rw [ef5, va_up_ne _ _ hkw]; exact hfk
      refine lv_iload hx hb dX1_dry_46 (lv_at hl 7 rfl) ?_
      refine lv_iload hx hb dX1_dry_48 (lv_at hl 3 rfl) ?_
      refine lv_icmp_gt (tgt := 117) hx hb dX1_dry_50 (by decide) (fun _ => ?_) (fun c9 => absurd (nI_lt (Nat.lt_succ_self nl) (by omega)) c9)
      refine lv_dload hx hb dX1_dry_117 (lv_at hl 4 rfl) ?_
      refine lv_dload hx hb dX1_dry_119 (lv_at hl 5 rfl) ?_
      refine lv_dadd hx hb dX1_dry_121 hw1 ?_
      refine lv_aload_n hx hb dX1_dry_122 rfl (lv_at hl 0 rfl) ?_
      refine wg (C := RX1) (T := TX1) (N := 7) hx hb hts hi1 hown hw hLb h6 rfl 3 (by decide) (hts (.fieldLink RX1 23 "LayerMoisture$Board" "depth" "D") (by decide +kernel)) (fun _ h9 => h9) (v := .double dep) rfl dX1_dry_123 ?_
      refine lv_dmul hx hb dX1_dry_126 hw2 ?_
      refine lv_ldc2d (v := 4634204016564240384) hx hb hown (hts (.constantDouble RX1 59 (4634204016564240384)) (by decide +kernel)) dX1_dry_127 ?_
      refine lv_dmul hx hb dX1_dry_130 hw3 ?_
      exact hret _ _ _ _ _ _ hw ⟨rfl, by rw [ef5]⟩ dX1_dry_131
    | succ kf ih =>
      intro i hik H locs hw ls hl
      have hlt : i < nl + 1 := by omega
      obtain ⟨f9, ef9⟩ : ∃ z : Nat → va_E, z = va_up f w (aD (dA 1) (nl + 1) (newTo ka kb dep (sp_face dep (g 0) spd bal) (sp_face dep (g nl) spd bal) g nl i)) := ⟨_, rfl⟩
      have hw : ww G dA A s L f9 H locs := by rw [ef9]; exact hw
      have h10 : f9 b = .inr (2, [.ref w, .ref k, .int th, .double dep, .int lim, .double load, .int kept]) := by rw [ef9, va_up_ne _ _ hbw]; exact hfb
      have h11 : f9 w = aD (dA 1) (nl + 1) (newTo ka kb dep (sp_face dep (g 0) spd bal) (sp_face dep (g nl) spd bal) g nl i) := by rw [ef9]; exact va_up_self _ _ _
      have h12 : f9 k = .inr (3, [.double ka, .double kb]) := by rw [ef9, va_up_ne _ _ hkw]; exact hfk
      refine lv_iload hx hb dX1_dry_46 (lv_at hl 7 rfl) ?_
      refine lv_iload hx hb dX1_dry_48 (lv_at hl 3 rfl) ?_
      refine lv_icmp_gt (tgt := 117) hx hb dX1_dry_50 (by decide) (fun c9 => absurd c9 (nI_nlt (show i ≤ nl by omega) (by omega))) (fun _ => ?_)
      refine lv_iload hx hb dX1_dry_53 (lv_at hl 7 rfl) ?_
      refine lv_iload hx hb dX1_dry_55 (lv_at hl 3 rfl) ?_
      refine lv_icmp_ge (tgt := 83) hx hb dX1_dry_57 (by decide) (fun c57 => ?_) (fun c57 => ?_)
      · have e57 : sp_fl ka kb dep (sp_face dep (g nl) spd bal) g nl i = sp_face dep (g nl) spd bal := by simp only [sp_fl, if_neg (Nat.not_lt.mpr ((nI_leI (by omega) (by omega)).mp c57))]
        refine lv_dload hx hb dX1_dry_83 (lv_at hl 5 rfl) ?_
        refine lv_dstore (lv' := [(13, .double (sp_face dep (g nl) spd bal)), (0, .ref b), (1, .double spd), (3, .double bal), (5, .int (nI nl)), (6, .double (sp_face dep (g 0) spd bal)), (8, .double (sp_face dep (g nl) spd bal)), (10, .double (sp_gain ka kb dep (sp_face dep (g 0) spd bal) (sp_face dep (g nl) spd bal) g nl i)), (12, .int (nI i))]) hx hb dX1_dry_85 hl (by decide) rfl (fun ls hl => ?_)
        refine lv_aload_n hx hb dX1_dry_87 rfl (lv_at hl 1 rfl) ?_
        refine wg (C := RX1) (T := TX1) (N := 7) hx hb hts hi1 hown hw hLb h10 rfl 0 (by decide) (hts (.fieldLink RX1 9 "LayerMoisture$Board" "wetness" "[D") (by decide +kernel)) (fun _ h9 => h9) (v := .ref w) rfl dX1_dry_88 ?_
        refine lv_iload hx hb dX1_dry_91 (lv_at hl 8 rfl) ?_
        refine lv_aload_n hx hb dX1_dry_93 rfl (lv_at hl 1 rfl) ?_
        refine wg (C := RX1) (T := TX1) (N := 7) hx hb hts hi1 hown hw hLb h10 rfl 0 (by decide) (hts (.fieldLink RX1 9 "LayerMoisture$Board" "wetness" "[D") (by decide +kernel)) (fun _ h9 => h9) (v := .ref w) rfl dX1_dry_94 ?_
        refine lv_iload hx hb dX1_dry_97 (lv_at hl 8 rfl) ?_
        refine wld_d hx hb hw hLw h11 i hlt hn31 rfl dX1_dry_99 ?_
        rw [show ((newTo ka kb dep (sp_face dep (g 0) spd bal) (sp_face dep (g nl) spd bal) g nl i)) i = g i from newTo_at ka kb dep (sp_face dep (g 0) spd bal) (sp_face dep (g nl) spd bal) g nl i i (Nat.le_refl i)]
        refine lv_dload hx hb dX1_dry_100 (lv_at hl 7 rfl) ?_
        refine lv_dadd hx hb dX1_dry_102 (hd1 i hlt) ?_
        refine lv_dload hx hb dX1_dry_103 (lv_at hl 0 rfl) ?_
        refine lv_dsub hx hb dX1_dry_105 (by have h9 := hd2 i hlt; rw [e57] at h9; exact h9) ?_
        refine wst_d hx hb hw hLw h11 i hlt hn31 rfl dX1_dry_106 (fun H locs hw => ?_)
        obtain ⟨f13, ef13⟩ : ∃ z : Nat → va_E, z = va_up f9 w (aD (dA 1) (nl + 1) (vf_upd ((newTo ka kb dep (sp_face dep (g 0) spd bal) (sp_face dep (g nl) spd bal) g nl i)) i (FP.dsub (FP.dadd (g i) (sp_gain ka kb dep (sp_face dep (g 0) spd bal) (sp_face dep (g nl) spd bal) g nl i)) (sp_face dep (g nl) spd bal)))) := ⟨_, rfl⟩
        have hw : ww G dA A s L f13 H locs := by rw [ef13]; exact hw
        have h14 : f13 b = .inr (2, [.ref w, .ref k, .int th, .double dep, .int lim, .double load, .int kept]) := by rw [ef13, va_up_ne _ _ hbw]; exact h10
        have h15 : f13 w = aD (dA 1) (nl + 1) (vf_upd ((newTo ka kb dep (sp_face dep (g 0) spd bal) (sp_face dep (g nl) spd bal) g nl i)) i (FP.dsub (FP.dadd (g i) (sp_gain ka kb dep (sp_face dep (g 0) spd bal) (sp_face dep (g nl) spd bal) g nl i)) (sp_face dep (g nl) spd bal))) := by rw [ef13]; exact va_up_self _ _ _
        have h16 : f13 k = .inr (3, [.double ka, .double kb]) := by rw [ef13, va_up_ne _ _ hkw]; exact h12
        refine lv_dload hx hb dX1_dry_107 (lv_at hl 0 rfl) ?_
        refine lv_dstore (lv' := [(10, .double (sp_face dep (g nl) spd bal)), (13, .double (sp_face dep (g nl) spd bal)), (0, .ref b), (1, .double spd), (3, .double bal), (5, .int (nI nl)), (6, .double (sp_face dep (g 0) spd bal)), (8, .double (sp_face dep (g nl) spd bal)), (12, .int (nI i))]) hx hb dX1_dry_109 hl (by decide) rfl (fun ls hl => ?_)
        refine lv_iinc (v := nI (i + 1)) (lv' := [(12, .int (nI (i + 1))), (10, .double (sp_face dep (g nl) spd bal)), (13, .double (sp_face dep (g nl) spd bal)), (0, .ref b), (1, .double spd), (3, .double bal), (5, .int (nI nl)), (6, .double (sp_face dep (g 0) spd bal)), (8, .double (sp_face dep (g nl) spd bal))]) hx hb dX1_dry_111 hl (k := 8) rfl (nI_1 i) (by decide) rfl (fun ls hl => ?_)
        refine lv_goto (tgt := 46) hx hb dX1_dry_114 (by decide) ?_
        rw [ef13, ef9, bx_uu, show vf_upd (newTo ka kb dep (sp_face dep (g 0) spd bal) (sp_face dep (g nl) spd bal) g nl i) i (FP.dsub (FP.dadd (g i) (sp_gain ka kb dep (sp_face dep (g 0) spd bal) (sp_face dep (g nl) spd bal) g nl i)) (sp_face dep (g nl) spd bal)) = newTo ka kb dep (sp_face dep (g 0) spd bal) (sp_face dep (g nl) spd bal) g nl (i + 1) by have h9 := newTo_s ka kb dep (sp_face dep (g 0) spd bal) (sp_face dep (g nl) spd bal) g nl i; rw [sp_new, e57] at h9; exact h9] at hw
        exact ih (i + 1) (by omega) _ _ hw ls (by rw [show sp_gain ka kb dep (sp_face dep (g 0) spd bal) (sp_face dep (g nl) spd bal) g nl (i + 1) = sp_face dep (g nl) spd bal from e57]; exact lv_sub hl [3, 4, 5, 6, 7, 8, 1, 0] rfl)
      · have hin : i < nl := Nat.lt_of_not_le fun q => c57 ((nI_leI (by omega) (by omega)).mpr q)
        have e57 : sp_fl ka kb dep (sp_face dep (g nl) spd bal) g nl i = sp_slope ka kb dep (g i) (g (i + 1)) := by simp only [sp_fl, if_pos hin]
        refine lv_aload_n hx hb dX1_dry_60 rfl (lv_at hl 0 rfl) ?_
        refine lv_aload_n hx hb dX1_dry_61 rfl (lv_at hl 0 rfl) ?_
        refine wg (C := RX1) (T := TX1) (N := 7) hx hb hts hi1 hown hw hLb h10 rfl 0 (by decide) (hts (.fieldLink RX1 9 "LayerMoisture$Board" "wetness" "[D") (by decide +kernel)) (fun _ h9 => h9) (v := .ref w) rfl dX1_dry_62 ?_
        refine lv_iload hx hb dX1_dry_65 (lv_at hl 7 rfl) ?_
        refine wld_d hx hb hw hLw h11 i hlt hn31 rfl dX1_dry_67 ?_
        rw [show ((newTo ka kb dep (sp_face dep (g 0) spd bal) (sp_face dep (g nl) spd bal) g nl i)) i = g i from newTo_at ka kb dep (sp_face dep (g 0) spd bal) (sp_face dep (g nl) spd bal) g nl i i (Nat.le_refl i)]
        refine lv_aload_n hx hb dX1_dry_68 rfl (lv_at hl 0 rfl) ?_
        refine wg (C := RX1) (T := TX1) (N := 7) hx hb hts hi1 hown hw hLb h10 rfl 0 (by decide) (hts (.fieldLink RX1 9 "LayerMoisture$Board" "wetness" "[D") (by decide +kernel)) (fun _ h9 => h9) (v := .ref w) rfl dX1_dry_69 ?_
        refine lv_iload hx hb dX1_dry_72 (lv_at hl 7 rfl) ?_
        refine lv_iconst (v := 1) hx hb dX1_dry_74 (by decide) ?_
        refine lv_iadd hx hb dX1_dry_75 ?_
        rw [show (nI i) + 1 = nI (i + 1) from nI_1 i]
        refine wld_d hx hb hw hLw h11 ((i + 1)) (Nat.succ_lt_succ hin) hn31 rfl dX1_dry_76 ?_
        rw [show ((newTo ka kb dep (sp_face dep (g 0) spd bal) (sp_face dep (g nl) spd bal) g nl i)) ((i + 1)) = g (i + 1) from newTo_at ka kb dep (sp_face dep (g 0) spd bal) (sp_face dep (g nl) spd bal) g nl i (i + 1) (Nat.le_succ i)]
        refine kV_D (C := RX1) (T := TX1) (N := 7) (As := [.double (g i), .double (g (i + 1))]) (rest := []) ⟨hx, hb, hml, hown, hts⟩ (c_X1_slopeFlow l G dA L f9 b w k th lim kept dep load ka kb (g i) (g (i + 1)) hLb h10 hLk h12 (hs1 i hin) (hs2 i hin) (hs3 i hin) (hs4 i hin) (hs5 i hin) (hs6 i hin) hr3 (hs7 i hin)) (cwV 2 hts gX1_dry_X1_slopeFlow rfl rfl rfl (by decide +kernel) ⟨Nat.le_of_ble_eq_true rfl, Nat.le_of_ble_eq_true rfl⟩) hw hA hLb h10 rfl rfl hl.1 rfl (Nat.le_of_ble_eq_true rfl) dX1_dry_77 ⟨Nat.zero_le _, Nat.zero_le _⟩ (fun r17 f18 H locs hp hw => ?_)
        obtain ⟨e1, e2⟩ := hp
        rw [e2] at hw
        rw [e1]
        refine lv_goto (tgt := 85) hx hb dX1_dry_80 (by decide) ?_
        refine lv_dstore (lv' := [(13, .double (sp_slope ka kb dep (g i) (g (i + 1)))), (0, .ref b), (1, .double spd), (3, .double bal), (5, .int (nI nl)), (6, .double (sp_face dep (g 0) spd bal)), (8, .double (sp_face dep (g nl) spd bal)), (10, .double (sp_gain ka kb dep (sp_face dep (g 0) spd bal) (sp_face dep (g nl) spd bal) g nl i)), (12, .int (nI i))]) hx hb dX1_dry_85 hl (by decide) rfl (fun ls hl => ?_)
        refine lv_aload_n hx hb dX1_dry_87 rfl (lv_at hl 1 rfl) ?_
        refine wg (C := RX1) (T := TX1) (N := 7) hx hb hts hi1 hown hw hLb h10 rfl 0 (by decide) (hts (.fieldLink RX1 9 "LayerMoisture$Board" "wetness" "[D") (by decide +kernel)) (fun _ h9 => h9) (v := .ref w) rfl dX1_dry_88 ?_
        refine lv_iload hx hb dX1_dry_91 (lv_at hl 8 rfl) ?_
        refine lv_aload_n hx hb dX1_dry_93 rfl (lv_at hl 1 rfl) ?_
        refine wg (C := RX1) (T := TX1) (N := 7) hx hb hts hi1 hown hw hLb h10 rfl 0 (by decide) (hts (.fieldLink RX1 9 "LayerMoisture$Board" "wetness" "[D") (by decide +kernel)) (fun _ h9 => h9) (v := .ref w) rfl dX1_dry_94 ?_
        refine lv_iload hx hb dX1_dry_97 (lv_at hl 8 rfl) ?_
        refine wld_d hx hb hw hLw h11 i hlt hn31 rfl dX1_dry_99 ?_
        rw [show ((newTo ka kb dep (sp_face dep (g 0) spd bal) (sp_face dep (g nl) spd bal) g nl i)) i = g i from newTo_at ka kb dep (sp_face dep (g 0) spd bal) (sp_face dep (g nl) spd bal) g nl i i (Nat.le_refl i)]
        refine lv_dload hx hb dX1_dry_100 (lv_at hl 7 rfl) ?_
        refine lv_dadd hx hb dX1_dry_102 (hd1 i hlt) ?_
        refine lv_dload hx hb dX1_dry_103 (lv_at hl 0 rfl) ?_
        refine lv_dsub hx hb dX1_dry_105 (by have h9 := hd2 i hlt; rw [e57] at h9; exact h9) ?_
        refine wst_d hx hb hw hLw h11 i hlt hn31 rfl dX1_dry_106 (fun H locs hw => ?_)
        obtain ⟨f19, ef19⟩ : ∃ z : Nat → va_E, z = va_up f9 w (aD (dA 1) (nl + 1) (vf_upd ((newTo ka kb dep (sp_face dep (g 0) spd bal) (sp_face dep (g nl) spd bal) g nl i)) i (FP.dsub (FP.dadd (g i) (sp_gain ka kb dep (sp_face dep (g 0) spd bal) (sp_face dep (g nl) spd bal) g nl i)) (sp_slope ka kb dep (g i) (g (i + 1)))))) := ⟨_, rfl⟩
        have hw : ww G dA A s L f19 H locs := by rw [ef19]; exact hw
        have h20 : f19 b = .inr (2, [.ref w, .ref k, .int th, .double dep, .int lim, .double load, .int kept]) := by rw [ef19, va_up_ne _ _ hbw]; exact h10
        have h21 : f19 w = aD (dA 1) (nl + 1) (vf_upd ((newTo ka kb dep (sp_face dep (g 0) spd bal) (sp_face dep (g nl) spd bal) g nl i)) i (FP.dsub (FP.dadd (g i) (sp_gain ka kb dep (sp_face dep (g 0) spd bal) (sp_face dep (g nl) spd bal) g nl i)) (sp_slope ka kb dep (g i) (g (i + 1))))) := by rw [ef19]; exact va_up_self _ _ _
        have h22 : f19 k = .inr (3, [.double ka, .double kb]) := by rw [ef19, va_up_ne _ _ hkw]; exact h12
        refine lv_dload hx hb dX1_dry_107 (lv_at hl 0 rfl) ?_
        refine lv_dstore (lv' := [(10, .double (sp_slope ka kb dep (g i) (g (i + 1)))), (13, .double (sp_slope ka kb dep (g i) (g (i + 1)))), (0, .ref b), (1, .double spd), (3, .double bal), (5, .int (nI nl)), (6, .double (sp_face dep (g 0) spd bal)), (8, .double (sp_face dep (g nl) spd bal)), (12, .int (nI i))]) hx hb dX1_dry_109 hl (by decide) rfl (fun ls hl => ?_)
        refine lv_iinc (v := nI (i + 1)) (lv' := [(12, .int (nI (i + 1))), (10, .double (sp_slope ka kb dep (g i) (g (i + 1)))), (13, .double (sp_slope ka kb dep (g i) (g (i + 1)))), (0, .ref b), (1, .double spd), (3, .double bal), (5, .int (nI nl)), (6, .double (sp_face dep (g 0) spd bal)), (8, .double (sp_face dep (g nl) spd bal))]) hx hb dX1_dry_111 hl (k := 8) rfl (nI_1 i) (by decide) rfl (fun ls hl => ?_)
        refine lv_goto (tgt := 46) hx hb dX1_dry_114 (by decide) ?_
        rw [ef19, ef9, bx_uu, show vf_upd (newTo ka kb dep (sp_face dep (g 0) spd bal) (sp_face dep (g nl) spd bal) g nl i) i (FP.dsub (FP.dadd (g i) (sp_gain ka kb dep (sp_face dep (g 0) spd bal) (sp_face dep (g nl) spd bal) g nl i)) (sp_slope ka kb dep (g i) (g (i + 1)))) = newTo ka kb dep (sp_face dep (g 0) spd bal) (sp_face dep (g nl) spd bal) g nl (i + 1) by have h9 := newTo_s ka kb dep (sp_face dep (g 0) spd bal) (sp_face dep (g nl) spd bal) g nl i; rw [sp_new, e57] at h9; exact h9] at hw
        exact ih (i + 1) (by omega) _ _ hw ls (by rw [show sp_gain ka kb dep (sp_face dep (g 0) spd bal) (sp_face dep (g nl) spd bal) g nl (i + 1) = sp_slope ka kb dep (g i) (g (i + 1)) from e57]; exact lv_sub hl [3, 4, 5, 6, 7, 8, 1, 0] rfl)
  have hw : ww G dA A s L (va_up f w (aD (dA 1) (nl + 1) (newTo ka kb dep (sp_face dep (g 0) spd bal) (sp_face dep (g nl) spd bal) g nl 0))) H locs := (show ww G dA A s L (va_up f w (aD (dA 1) (nl + 1) g)) H locs by rw [va_up_id hfw]; exact hw)
  exact loop (nl + 1) 0 (by omega) _ _ hw ls (lv_sub hl [5, 6, 7, 4, 3, 2, 1, 0] rfl)
end
section
/-! ===== the schedule's text: what both sides read ===== -/
def sp_app (tl : Nat) (x : Int32) : Bool := decide (tl < 200) && (decide (¬ x < 32) && decide (¬ 126 < x))
def nxt (tx : Nat → Int32) (tl p : Nat) : Int32 := if p < tl then tx p else 0
def isD (tx : Nat → Int32) (tl p : Nat) : Bool := decide (¬ nxt tx tl p < 48) && decide (¬ 57 < nxt tx tl p)
def TxOk (tx : Nat → Int32) (tl : Nat) : Prop := ∀ j, j < tl → ∃ q, 32 ≤ q ∧ q ≤ 126 ∧ tx j = nI q
def scanN (tx : Nat → Int32) (tl : Nat) : Nat → Nat → Int32 → Nat × Int32
  | 0, p, v => (p, v)
  | k + 1, p, v => if isD tx tl p then scanN tx tl k (p + 1) (v * 10 + (nxt tx tl p - 48)) else (p, v)
def numP (tx : Nat → Int32) (tl p : Nat) (lo hi : Int32) : Option (Nat × Int32) :=
  if (scanN tx tl 3 p 0).1 = p ∨ (scanN tx tl 3 p 0).2 < lo ∨ hi < (scanN tx tl 3 p 0).2 then none else some (scanN tx tl 3 p 0)
def numV (o : Option (Nat × Int32)) : Int32 := match o with | none => -1 | some x => x.2
def numQ (o : Option (Nat × Int32)) (p : Nat) : Nat := match o with | none => p | some x => x.1
theorem isD_lt {tx : Nat → Int32} {tl p : Nat} (h : isD tx tl p = true) : p < tl := by
  refine Nat.lt_of_not_le fun q => ?_
  simp only [isD, nxt, if_neg (Nat.not_lt.mpr q)] at h
  exact absurd h (by decide)
theorem scanN_le {tx : Nat → Int32} {tl : Nat} : ∀ (k p : Nat) (v : Int32), p ≤ tl → p ≤ (scanN tx tl k p v).1 ∧ (scanN tx tl k p v).1 ≤ tl
  | 0, p, v, h => ⟨Nat.le_refl _, h⟩
  | k + 1, p, v, h => by
    unfold scanN
    by_cases q : isD tx tl p = true
    · rw [if_pos q]
      have h1 := scanN_le (tx := tx) k (p + 1) (v * 10 + (nxt tx tl p - 48)) (isD_lt q)
      exact ⟨by omega, h1.2⟩
    · rw [if_neg q]
      exact ⟨Nat.le_refl _, h⟩
theorem nxt_char {tx : Nat → Int32} {tl p : Nat} (h : TxOk tx tl) : narrow .char (.int (nxt tx tl p)) = .int (nxt tx tl p) := by
  unfold nxt
  split
  · rename_i q
    obtain ⟨j, h1, h2, h3⟩ := h p q
    rw [h3]
    exact (pk_charN (by omega)).1
  · rfl
theorem i2c_small {u : Int32} (h1 : ¬ u < 32) (h2 : u ≤ 126) : vp_nar .char (u.toUInt32 % 65536).toInt32 = u ∧ ∃ q, 32 ≤ q ∧ q ≤ 126 ∧ u = nI q := by
  obtain ⟨j, hj, rfl⟩ := nI_of2 (M := 126) (n := 126) rfl (x := u) (fun h => h1 (by rw [Int32.lt_iff_toInt_lt] at h ⊢; exact Int.lt_trans h (by decide))) h2
  have h3 : 32 ≤ j := by
    refine Nat.le_of_not_lt fun q => h1 ?_
    exact nI_lt (b := 32) q (by decide)
  refine ⟨?_, j, h3, hj, rfl⟩
  rw [pk_vc, pk_char, pk_tn (by omega), Nat.mod_eq_of_lt (by omega)]
end
section
set_option maxHeartbeats 4000000 in
set_option maxRecDepth 100000 in
theorem c_X5_append (l : Launch) (G : va_G) (dA : Nat → ClassId) (L : List Nat) (f : Nat → va_E) (t u tl tp : Nat) (tx : Nat → Int32) (x : Int32) (hLt : t ∈ L) (hft : f t = .inr (6, [.ref u, .int (nI tl), .int (nI tp)])) (hLu : u ∈ L) (hfu : f u = aI (dA 0) 200 tx) (htl : tl ≤ 200) (htu : t ≠ u) (hut : u ≠ t)  : mI l yX5_append wsX5_append ({ frames := 0, cells := 0, slots := 0, locals := 0 }) G dA [.ref t, .int x] L f (fun r f2 => r = b2i (sp_app tl x) ∧ f2 = if (sp_app tl x) = true then va_up (va_up f u (aI (dA 0) 200 (upd tx tl x))) t (.inr (6, [.ref u, .int (nI (tl + 1)), .int (nI tp)])) else f) := by
  refine mI_of (cc := cX5_append) (maxL := 2) (by decide) rfl (Nat.le_of_ble_eq_true rfl) ?_
  intro p e s m below meth c A ls Q hx hb hml hown hts hlocks hA hin0 hw hl hret
  have hown : s.vm.findClass RX5 = some m.cls := hown
  have hl : lv_has ls 2 [(0, .ref t), (1, .int x)] := hl
  have hi5 : ∀ w ∈ u_ws RX5 TX5 3, w ∈ wsX5_append := by decide +kernel
  refine lv_aload_n hx hb dX5_append_0 rfl (lv_at hl 0 rfl) ?_
  refine wg (C := RX5) (T := TX5) (N := 3) hx hb hts hi5 hown hw hLt hft rfl 1 (by decide) (hts (.fieldLink RX5 15 "LayerMoisture$Text" "length" "I") (by decide +kernel)) (fun _ h9 => h9) (v := .int (nI tl)) rfl dX5_append_1 ?_
  refine lv_aload_n hx hb dX5_append_4 rfl (lv_at hl 0 rfl) ?_
  refine wg (C := RX5) (T := TX5) (N := 3) hx hb hts hi5 hown hw hLt hft rfl 0 (by decide) (hts (.fieldLink RX5 11 "LayerMoisture$Text" "units" "[C") (by decide +kernel)) (fun _ h9 => h9) (v := .ref u) rfl dX5_append_5 ?_
  refine wlen hx hb 0 hw hLu hfu rfl dX5_append_8 ?_
  refine lv_icmp_ge (tgt := 24) hx hb dX5_append_9 (by decide) (fun c9 => ?_) (fun c9 => ?_)
  · have e9 : sp_app tl x = false := by simp [sp_app, Nat.not_lt.mpr ((nI_leI (by decide) (by omega)).mp (show nI 200 ≤ nI tl from c9))]
    refine lv_iconst (v := 0) hx hb dX5_append_24 (by decide) ?_
    exact hret _ _ _ _ _ _ hw ⟨by rw [e9]; rfl, by rw [e9]; rfl⟩ (by decide) dX5_append_25
  · have h200 : tl < 200 := Nat.lt_of_not_le fun q => c9 (show nI 200 ≤ nI tl from (nI_leI (by decide) (by omega)).mpr q)
    refine lv_iload_n hx hb dX5_append_12 rfl (lv_at hl 1 rfl) ?_
    refine lv_bipush (v := 32) hx hb dX5_append_13 (by decide) ?_
    refine lv_icmp_lt (tgt := 24) hx hb dX5_append_15 (by decide) (fun c15 => ?_) (fun c15 => ?_)
    · have e9 : sp_app tl x = false := by simp [sp_app, c15]
      refine lv_iconst (v := 0) hx hb dX5_append_24 (by decide) ?_
      exact hret _ _ _ _ _ _ hw ⟨by rw [e9]; rfl, by rw [e9]; rfl⟩ (by decide) dX5_append_25
    · refine lv_iload_n hx hb dX5_append_18 rfl (lv_at hl 1 rfl) ?_
      refine lv_bipush (v := 126) hx hb dX5_append_19 (by decide) ?_
      refine lv_icmp_le (tgt := 26) hx hb dX5_append_21 (by decide) (fun c21 => ?_) (fun c21 => ?_)
      · have e9 : sp_app tl x = true := by simp [sp_app, h200, c15, Int32.not_lt.mpr c21]
        refine lv_aload_n hx hb dX5_append_26 rfl (lv_at hl 0 rfl) ?_
        refine wg (C := RX5) (T := TX5) (N := 3) hx hb hts hi5 hown hw hLt hft rfl 0 (by decide) (hts (.fieldLink RX5 11 "LayerMoisture$Text" "units" "[C") (by decide +kernel)) (fun _ h9 => h9) (v := .ref u) rfl dX5_append_27 ?_
        refine lv_aload_n hx hb dX5_append_30 rfl (lv_at hl 0 rfl) ?_
        refine wg (C := RX5) (T := TX5) (N := 3) hx hb hts hi5 hown hw hLt hft rfl 1 (by decide) (hts (.fieldLink RX5 15 "LayerMoisture$Text" "length" "I") (by decide +kernel)) (fun _ h9 => h9) (v := .int (nI tl)) rfl dX5_append_31 ?_
        refine lv_iload_n hx hb dX5_append_34 rfl (lv_at hl 1 rfl) ?_
        refine lv_i2c (v := (x.toUInt32 % 65536).toInt32) hx hb dX5_append_35 rfl ?_
        refine wst_c hx hb hw hLu hfu tl h200 (by decide) rfl dX5_append_36 (fun H locs hw => ?_)
        obtain ⟨f1, ef1⟩ : ∃ z : Nat → va_E, z = va_up f u (aI (dA 0) 200 (upd tx tl (vp_nar .char ((x.toUInt32 % 65536).toInt32)))) := ⟨_, rfl⟩
        have hw : ww G dA A s L f1 H locs := by rw [ef1]; exact hw
        have h2 : f1 t = .inr (6, [.ref u, .int (nI tl), .int (nI tp)]) := by rw [ef1, va_up_ne _ _ htu]; exact hft
        have h3 : f1 u = aI (dA 0) 200 (upd tx tl (vp_nar .char ((x.toUInt32 % 65536).toInt32))) := by rw [ef1]; exact va_up_self _ _ _
        refine lv_aload_n hx hb dX5_append_37 rfl (lv_at hl 0 rfl) ?_
        refine lv_dup hx hb dX5_append_38 rfl ?_
        refine wg (C := RX5) (T := TX5) (N := 3) hx hb hts hi5 hown hw hLt h2 rfl 1 (by decide) (hts (.fieldLink RX5 15 "LayerMoisture$Text" "length" "I") (by decide +kernel)) (fun _ h9 => h9) (v := .int (nI tl)) rfl dX5_append_39 ?_
        refine lv_iconst (v := 1) hx hb dX5_append_42 (by decide) ?_
        refine lv_iadd hx hb dX5_append_43 ?_
        rw [show (nI tl) + 1 = nI (tl + 1) from nI_1 tl]
        refine wp_ (C := RX5) (T := TX5) (N := 3) hx hb hts hi5 tyX5 tyX5_ok nmX5 hown hw hLt h2 rfl 1 (by decide) (hts (.fieldLink RX5 15 "LayerMoisture$Text" "length" "I") (by decide +kernel)) (fun _ h9 => h9) rfl (ty := .int) (v := .int (nI (tl + 1))) (by decide +kernel) rfl rfl (Nat.le_of_ble_eq_true rfl) dX5_append_44 (fun H locs hw => ?_)
        obtain ⟨f4, ef4⟩ : ∃ z : Nat → va_E, z = va_up f1 t (.inr (6, [.ref u, .int (nI (tl + 1)), .int (nI tp)])) := ⟨_, rfl⟩
        have hw : ww G dA A s L f4 H locs := by rw [ef4]; exact hw
        have h5 : f4 t = .inr (6, [.ref u, .int (nI (tl + 1)), .int (nI tp)]) := by rw [ef4]; exact va_up_self _ _ _
        have h6 : f4 u = aI (dA 0) 200 ((upd tx tl (vp_nar .char ((x.toUInt32 % 65536).toInt32)))) := by rw [ef4, va_up_ne _ _ hut]; exact h3
        refine lv_iconst (v := 1) hx hb dX5_append_47 (by decide) ?_
        exact hret _ _ _ _ _ _ hw ⟨by rw [e9]; rfl, by rw [e9, if_pos rfl, ef4, ef1, (i2c_small c15 c21).1]⟩ (by decide) dX5_append_48
      · have e9 : sp_app tl x = false := by simp [sp_app, Int32.not_le.mp c21]
        refine lv_iconst (v := 0) hx hb dX5_append_24 (by decide) ?_
        exact hret _ _ _ _ _ _ hw ⟨by rw [e9]; rfl, by rw [e9]; rfl⟩ (by decide) dX5_append_25

set_option maxHeartbeats 4000000 in
set_option maxRecDepth 100000 in
theorem c_X5_empty (l : Launch) (G : va_G) (dA : Nat → ClassId) (L : List Nat) (f : Nat → va_E) (t u tl tp : Nat) (tx : Nat → Int32) (hLt : t ∈ L) (hft : f t = .inr (6, [.ref u, .int (nI tl), .int (nI tp)]))   : mV l yX5_empty wsX5_empty ({ frames := 0, cells := 0, slots := 0, locals := 0 }) G dA [.ref t] L f (fun f2 => f2 = va_up f t (.inr (6, [.ref u, .int 0, .int 0]))) := by
  refine mV_of (cc := cX5_empty) (maxL := 1) (by decide) rfl (Nat.le_of_ble_eq_true rfl) ?_
  intro p e s m below meth c A ls Q hx hb hml hown hts hlocks hA hin0 hw hl hret
  have hown : s.vm.findClass RX5 = some m.cls := hown
  have hl : lv_has ls 1 [(0, .ref t)] := hl
  have hi5 : ∀ w ∈ u_ws RX5 TX5 3, w ∈ wsX5_empty := by decide +kernel
  refine lv_aload_n hx hb dX5_empty_0 rfl (lv_at hl 0 rfl) ?_
  refine lv_iconst (v := 0) hx hb dX5_empty_1 (by decide) ?_
  refine wp_ (C := RX5) (T := TX5) (N := 3) hx hb hts hi5 tyX5 tyX5_ok nmX5 hown hw hLt hft rfl 1 (by decide) (hts (.fieldLink RX5 15 "LayerMoisture$Text" "length" "I") (by decide +kernel)) (fun _ h9 => h9) rfl (ty := .int) (v := .int 0) (by decide +kernel) rfl rfl (Nat.le_of_ble_eq_true rfl) dX5_empty_2 (fun H locs hw => ?_)
  obtain ⟨f1, ef1⟩ : ∃ z : Nat → va_E, z = va_up f t (.inr (6, [.ref u, .int 0, .int (nI tp)])) := ⟨_, rfl⟩
  have hw : ww G dA A s L f1 H locs := by rw [ef1]; exact hw
  have h2 : f1 t = .inr (6, [.ref u, .int 0, .int (nI tp)]) := by rw [ef1]; exact va_up_self _ _ _
  refine lv_aload_n hx hb dX5_empty_5 rfl (lv_at hl 0 rfl) ?_
  refine lv_iconst (v := 0) hx hb dX5_empty_6 (by decide) ?_
  refine wp_ (C := RX5) (T := TX5) (N := 3) hx hb hts hi5 tyX5 tyX5_ok nmX5 hown hw hLt h2 rfl 2 (by decide) (hts (.fieldLink RX5 19 "LayerMoisture$Text" "place" "I") (by decide +kernel)) (fun _ h9 => h9) rfl (ty := .int) (v := .int 0) (by decide +kernel) rfl rfl (Nat.le_of_ble_eq_true rfl) dX5_empty_7 (fun H locs hw => ?_)
  obtain ⟨f3, ef3⟩ : ∃ z : Nat → va_E, z = va_up f1 t (.inr (6, [.ref u, .int 0, .int 0])) := ⟨_, rfl⟩
  have hw : ww G dA A s L f3 H locs := by rw [ef3]; exact hw
  have h4 : f3 t = .inr (6, [.ref u, .int 0, .int 0]) := by rw [ef3]; exact va_up_self _ _ _
  exact hret _ _ _ _ _ hw (by rw [ef3, ef1]; funext z; by_cases h1 : z = t <;> simp [va_up, h1]) dX5_empty_10

set_option maxHeartbeats 4000000 in
set_option maxRecDepth 100000 in
theorem c_X5_isAtEnd (l : Launch) (G : va_G) (dA : Nat → ClassId) (L : List Nat) (f : Nat → va_E) (t u tl tp : Nat) (tx : Nat → Int32) (hLt : t ∈ L) (hft : f t = .inr (6, [.ref u, .int (nI tl), .int (nI tp)])) (htl : tl ≤ 200) (htp : tp ≤ 200)  : mI l yX5_isAtEnd wsX5_isAtEnd ({ frames := 0, cells := 0, slots := 0, locals := 0 }) G dA [.ref t] L f (fun r f2 => r = b2i (decide (tl ≤ tp)) ∧ f2 = f) := by
  refine mI_of (cc := cX5_isAtEnd) (maxL := 1) (by decide) rfl (Nat.le_of_ble_eq_true rfl) ?_
  intro p e s m below meth c A ls Q hx hb hml hown hts hlocks hA hin0 hw hl hret
  have hown : s.vm.findClass RX5 = some m.cls := hown
  have hl : lv_has ls 1 [(0, .ref t)] := hl
  have hi5 : ∀ w ∈ u_ws RX5 TX5 3, w ∈ wsX5_isAtEnd := by decide +kernel
  refine lv_aload_n hx hb dX5_isAtEnd_0 rfl (lv_at hl 0 rfl) ?_
  refine wg (C := RX5) (T := TX5) (N := 3) hx hb hts hi5 hown hw hLt hft rfl 2 (by decide) (hts (.fieldLink RX5 19 "LayerMoisture$Text" "place" "I") (by decide +kernel)) (fun _ h9 => h9) (v := .int (nI tp)) rfl dX5_isAtEnd_1 ?_
  refine lv_aload_n hx hb dX5_isAtEnd_4 rfl (lv_at hl 0 rfl) ?_
  refine wg (C := RX5) (T := TX5) (N := 3) hx hb hts hi5 hown hw hLt hft rfl 1 (by decide) (hts (.fieldLink RX5 15 "LayerMoisture$Text" "length" "I") (by decide +kernel)) (fun _ h9 => h9) (v := .int (nI tl)) rfl dX5_isAtEnd_5 ?_
  refine lv_icmp_lt (tgt := 15) hx hb dX5_isAtEnd_8 (by decide) (fun c8 => ?_) (fun c8 => ?_)
  · have e9 : decide (tl ≤ tp) = false := decide_eq_false (Nat.not_le.mpr ((nI_ltI (by omega) (by omega)).mp c8))
    refine lv_iconst (v := 0) hx hb dX5_isAtEnd_15 (by decide) ?_
    exact hret _ _ _ _ _ _ hw ⟨by rw [e9]; rfl, rfl⟩ (by decide) dX5_isAtEnd_16
  · have e9 : decide (tl ≤ tp) = true := decide_eq_true (Nat.le_of_not_lt fun q => c8 ((nI_ltI (by omega) (by omega)).mpr q))
    refine lv_iconst (v := 1) hx hb dX5_isAtEnd_11 (by decide) ?_
    refine lv_goto (tgt := 16) hx hb dX5_isAtEnd_12 (by decide) ?_
    exact hret _ _ _ _ _ _ hw ⟨by rw [e9]; rfl, rfl⟩ (by decide) dX5_isAtEnd_16

set_option maxHeartbeats 4000000 in
set_option maxRecDepth 100000 in
theorem c_X5_next (l : Launch) (G : va_G) (dA : Nat → ClassId) (L : List Nat) (f : Nat → va_E) (t u tl tp : Nat) (tx : Nat → Int32) (hLt : t ∈ L) (hft : f t = .inr (6, [.ref u, .int (nI tl), .int (nI tp)])) (hLu : u ∈ L) (hfu : f u = aI (dA 0) 200 tx) (htl : tl ≤ 200) (htp : tp ≤ 200) (hok : TxOk tx tl)  : mI l yX5_next wsX5_next ({ frames := 1, cells := 0, slots := 0, locals := 20 }) G dA [.ref t] L f (fun r f2 => r = nxt tx tl tp ∧ f2 = f) := by
  refine mI_of (cc := cX5_next) (maxL := 1) (by decide) rfl (Nat.le_of_ble_eq_true rfl) ?_
  intro p e s m below meth c A ls Q hx hb hml hown hts hlocks hA hin0 hw hl hret
  have hown : s.vm.findClass RX5 = some m.cls := hown
  have hl : lv_has ls 1 [(0, .ref t)] := hl
  have hi5 : ∀ w ∈ u_ws RX5 TX5 3, w ∈ wsX5_next := by decide +kernel
  refine lv_aload_n hx hb dX5_next_0 rfl (lv_at hl 0 rfl) ?_
  refine kV_I (C := RX5) (T := TX5) (N := 3) (As := []) (rest := []) ⟨hx, hb, hml, hown, hts⟩ (c_X5_isAtEnd l G dA L f t u tl tp tx hLt hft htl htp) (cwV 0 hts gX5_next_X5_isAtEnd rfl rfl rfl (by decide +kernel) ⟨Nat.le_of_ble_eq_true rfl, Nat.le_of_ble_eq_true rfl⟩) hw hA hLt hft rfl rfl hl.1 rfl (Nat.le_of_ble_eq_true rfl) dX5_next_1 ⟨Nat.zero_le _, Nat.zero_le _⟩ (fun r1 f2 H locs hp hw => ?_)
  obtain ⟨e1, e2⟩ := hp
  rw [e2] at hw
  rw [e1]
  refine lv_if_eq (tgt := 11) hx hb dX5_next_4 (by decide) (fun c4 => ?_) (fun c4 => ?_)
  · have h9 : tp < tl := Nat.lt_of_not_le fun q => by rw [decide_eq_true q] at c4; exact absurd c4 (by decide)
    refine lv_aload_n hx hb dX5_next_11 rfl (lv_at hl 0 rfl) ?_
    refine wg (C := RX5) (T := TX5) (N := 3) hx hb hts hi5 hown hw hLt hft rfl 0 (by decide) (hts (.fieldLink RX5 11 "LayerMoisture$Text" "units" "[C") (by decide +kernel)) (fun _ h9 => h9) (v := .ref u) rfl dX5_next_12 ?_
    refine lv_aload_n hx hb dX5_next_15 rfl (lv_at hl 0 rfl) ?_
    refine wg (C := RX5) (T := TX5) (N := 3) hx hb hts hi5 hown hw hLt hft rfl 2 (by decide) (hts (.fieldLink RX5 19 "LayerMoisture$Text" "place" "I") (by decide +kernel)) (fun _ h9 => h9) (v := .int (nI tp)) rfl dX5_next_16 ?_
    refine wld_c hx hb hw hLu hfu tp (by omega) (by decide) rfl dX5_next_19 ?_
    exact hret _ _ _ _ _ _ hw ⟨by rw [nxt, if_pos h9], rfl⟩ (by have h7 := nxt_char (p := tp) hok; rw [nxt, if_pos h9] at h7; exact h7) dX5_next_20
  · have h9 : ¬ tp < tl := fun q => by rw [decide_eq_false (Nat.not_le.mpr q)] at c4; exact c4 rfl
    refine lv_iconst (v := 0) hx hb dX5_next_7 (by decide) ?_
    refine lv_goto (tgt := 20) hx hb dX5_next_8 (by decide) ?_
    exact hret _ _ _ _ _ _ hw ⟨by rw [nxt, if_neg h9], rfl⟩ rfl dX5_next_20

set_option maxHeartbeats 4000000 in
set_option maxRecDepth 100000 in
theorem c_X5_isAtDigit (l : Launch) (G : va_G) (dA : Nat → ClassId) (L : List Nat) (f : Nat → va_E) (t u tl tp : Nat) (tx : Nat → Int32) (hLt : t ∈ L) (hft : f t = .inr (6, [.ref u, .int (nI tl), .int (nI tp)])) (hLu : u ∈ L) (hfu : f u = aI (dA 0) 200 tx) (htl : tl ≤ 200) (htp : tp ≤ 200) (hok : TxOk tx tl)  : mI l yX5_isAtDigit wsX5_isAtDigit ({ frames := 2, cells := 0, slots := 0, locals := 40 }) G dA [.ref t] L f (fun r f2 => r = b2i (isD tx tl tp) ∧ f2 = f) := by
  refine mI_of (cc := cX5_isAtDigit) (maxL := 1) (by decide) rfl (Nat.le_of_ble_eq_true rfl) ?_
  intro p e s m below meth c A ls Q hx hb hml hown hts hlocks hA hin0 hw hl hret
  have hown : s.vm.findClass RX5 = some m.cls := hown
  have hl : lv_has ls 1 [(0, .ref t)] := hl
  refine lv_aload_n hx hb dX5_isAtDigit_0 rfl (lv_at hl 0 rfl) ?_
  refine kV_I (C := RX5) (T := TX5) (N := 3) (As := []) (rest := []) ⟨hx, hb, hml, hown, hts⟩ (c_X5_next l G dA L f t u tl tp tx hLt hft hLu hfu htl htp hok) (cwV 0 hts gX5_isAtDigit_X5_next rfl rfl rfl (by decide +kernel) ⟨Nat.le_of_ble_eq_true rfl, Nat.le_of_ble_eq_true rfl⟩) hw hA hLt hft rfl rfl hl.1 rfl (Nat.le_of_ble_eq_true rfl) dX5_isAtDigit_1 ⟨Nat.zero_le _, Nat.zero_le _⟩ (fun r1 f2 H locs hp hw => ?_)
  obtain ⟨e1, e2⟩ := hp
  rw [e2] at hw
  rw [e1]
  refine lv_bipush (v := 48) hx hb dX5_isAtDigit_4 (by decide) ?_
  refine lv_icmp_lt (tgt := 22) hx hb dX5_isAtDigit_6 (by decide) (fun c6 => ?_) (fun c6 => ?_)
  · have e9 : isD tx tl tp = false := by simp [isD, c6]
    refine lv_iconst (v := 0) hx hb dX5_isAtDigit_22 (by decide) ?_
    exact hret _ _ _ _ _ _ hw ⟨by rw [e9]; rfl, rfl⟩ (by decide) dX5_isAtDigit_23
  · refine lv_aload_n hx hb dX5_isAtDigit_9 rfl (lv_at hl 0 rfl) ?_
    refine kV_I (C := RX5) (T := TX5) (N := 3) (As := []) (rest := []) ⟨hx, hb, hml, hown, hts⟩ (c_X5_next l G dA L f t u tl tp tx hLt hft hLu hfu htl htp hok) (cwV 0 hts gX5_isAtDigit_X5_next rfl rfl rfl (by decide +kernel) ⟨Nat.le_of_ble_eq_true rfl, Nat.le_of_ble_eq_true rfl⟩) hw hA hLt hft rfl rfl hl.1 rfl (Nat.le_of_ble_eq_true rfl) dX5_isAtDigit_10 ⟨Nat.zero_le _, Nat.zero_le _⟩ (fun r3 f4 H locs hp hw => ?_)
    obtain ⟨e1, e2⟩ := hp
    rw [e2] at hw
    rw [e1]
    refine lv_bipush (v := 57) hx hb dX5_isAtDigit_13 (by decide) ?_
    refine lv_icmp_gt (tgt := 22) hx hb dX5_isAtDigit_15 (by decide) (fun c15 => ?_) (fun c15 => ?_)
    · have e9 : isD tx tl tp = false := by simp [isD, c15]
      refine lv_iconst (v := 0) hx hb dX5_isAtDigit_22 (by decide) ?_
      exact hret _ _ _ _ _ _ hw ⟨by rw [e9]; rfl, rfl⟩ (by decide) dX5_isAtDigit_23
    · have e9 : isD tx tl tp = true := by simp [isD, Int32.not_lt.mp c6, Int32.not_lt.mp c15]
      refine lv_iconst (v := 1) hx hb dX5_isAtDigit_18 (by decide) ?_
      refine lv_goto (tgt := 23) hx hb dX5_isAtDigit_19 (by decide) ?_
      exact hret _ _ _ _ _ _ hw ⟨by rw [e9]; rfl, rfl⟩ (by decide) dX5_isAtDigit_23

set_option maxHeartbeats 4000000 in
set_option maxRecDepth 100000 in
theorem c_X5_pass (l : Launch) (G : va_G) (dA : Nat → ClassId) (L : List Nat) (f : Nat → va_E) (t u tl tp : Nat) (tx : Nat → Int32) (x : Int32) (hLt : t ∈ L) (hft : f t = .inr (6, [.ref u, .int (nI tl), .int (nI tp)])) (hLu : u ∈ L) (hfu : f u = aI (dA 0) 200 tx) (htl : tl ≤ 200) (htp : tp ≤ 200) (hok : TxOk tx tl)  : mI l yX5_pass wsX5_pass ({ frames := 2, cells := 0, slots := 0, locals := 40 }) G dA [.ref t, .int x] L f (fun r f2 => r = b2i (decide (nxt tx tl tp = x)) ∧ f2 = va_up f t (.inr (6, [.ref u, .int (nI tl), .int (nI (if nxt tx tl tp = x then tp + 1 else tp))]))) := by
  refine mI_of (cc := cX5_pass) (maxL := 2) (by decide) rfl (Nat.le_of_ble_eq_true rfl) ?_
  intro p e s m below meth c A ls Q hx hb hml hown hts hlocks hA hin0 hw hl hret
  have hown : s.vm.findClass RX5 = some m.cls := hown
  have hl : lv_has ls 2 [(0, .ref t), (1, .int x)] := hl
  have hi5 : ∀ w ∈ u_ws RX5 TX5 3, w ∈ wsX5_pass := by decide +kernel
  refine lv_aload_n hx hb dX5_pass_0 rfl (lv_at hl 0 rfl) ?_
  refine kV_I (C := RX5) (T := TX5) (N := 3) (As := []) (rest := []) ⟨hx, hb, hml, hown, hts⟩ (c_X5_next l G dA L f t u tl tp tx hLt hft hLu hfu htl htp hok) (cwV 0 hts gX5_pass_X5_next rfl rfl rfl (by decide +kernel) ⟨Nat.le_of_ble_eq_true rfl, Nat.le_of_ble_eq_true rfl⟩) hw hA hLt hft rfl rfl hl.1 rfl (Nat.le_of_ble_eq_true rfl) dX5_pass_1 ⟨Nat.zero_le _, Nat.zero_le _⟩ (fun r1 f2 H locs hp hw => ?_)
  obtain ⟨e1, e2⟩ := hp
  rw [e2] at hw
  rw [e1]
  refine lv_iload_n hx hb dX5_pass_4 rfl (lv_at hl 1 rfl) ?_
  refine lv_icmp_eq (tgt := 10) hx hb dX5_pass_5 (by decide) (fun c5 => ?_) (fun c5 => ?_)
  · have e9 : decide (nxt tx tl tp = x) = true := decide_eq_true c5
    refine lv_aload_n hx hb dX5_pass_10 rfl (lv_at hl 0 rfl) ?_
    refine lv_dup hx hb dX5_pass_11 rfl ?_
    refine wg (C := RX5) (T := TX5) (N := 3) hx hb hts hi5 hown hw hLt hft rfl 2 (by decide) (hts (.fieldLink RX5 19 "LayerMoisture$Text" "place" "I") (by decide +kernel)) (fun _ h9 => h9) (v := .int (nI tp)) rfl dX5_pass_12 ?_
    refine lv_iconst (v := 1) hx hb dX5_pass_15 (by decide) ?_
    refine lv_iadd hx hb dX5_pass_16 ?_
    rw [show (nI tp) + 1 = nI (tp + 1) from nI_1 tp]
    refine wp_ (C := RX5) (T := TX5) (N := 3) hx hb hts hi5 tyX5 tyX5_ok nmX5 hown hw hLt hft rfl 2 (by decide) (hts (.fieldLink RX5 19 "LayerMoisture$Text" "place" "I") (by decide +kernel)) (fun _ h9 => h9) rfl (ty := .int) (v := .int (nI (tp + 1))) (by decide +kernel) rfl rfl (Nat.le_of_ble_eq_true rfl) dX5_pass_17 (fun H locs hw => ?_)
    obtain ⟨f3, ef3⟩ : ∃ z : Nat → va_E, z = va_up f t (.inr (6, [.ref u, .int (nI tl), .int (nI (tp + 1))])) := ⟨_, rfl⟩
    have hw : ww G dA A s L f3 H locs := by rw [ef3]; exact hw
    have h4 : f3 t = .inr (6, [.ref u, .int (nI tl), .int (nI (tp + 1))]) := by rw [ef3]; exact va_up_self _ _ _
    have h5 : f3 u = aI (dA 0) 200 tx := by rw [ef3, va_up_ne _ _ (fun h => by have h1 := hfu; rw [h, hft] at h1; cases h1)]; exact hfu
    refine lv_iconst (v := 1) hx hb dX5_pass_20 (by decide) ?_
    exact hret _ _ _ _ _ _ hw ⟨by rw [e9]; rfl, by rw [ef3, if_pos c5]⟩ (by decide) dX5_pass_21
  · have e9 : decide (nxt tx tl tp = x) = false := decide_eq_false c5
    refine lv_iconst (v := 0) hx hb dX5_pass_8 (by decide) ?_
    exact hret _ _ _ _ _ _ hw ⟨by rw [e9]; rfl, by rw [if_neg c5]; exact (va_up_id hft).symm⟩ (by decide) dX5_pass_9

set_option maxHeartbeats 4000000 in
set_option maxRecDepth 100000 in
theorem c_X5_readNumber (l : Launch) (G : va_G) (dA : Nat → ClassId) (L : List Nat) (f : Nat → va_E) (t u tl tp : Nat) (tx : Nat → Int32) (lo hi : Int32) (hLt : t ∈ L) (hft : f t = .inr (6, [.ref u, .int (nI tl), .int (nI tp)])) (hLu : u ∈ L) (hfu : f u = aI (dA 0) 200 tx) (htl : tl ≤ 200) (htp : tp ≤ tl) (hok : TxOk tx tl)  : mI l yX5_readNumber wsX5_readNumber ({ frames := 3, cells := 0, slots := 0, locals := 60 }) G dA [.ref t, .int lo, .int hi] L f (fun r f2 => r = numV (numP tx tl tp lo hi) ∧ f2 = va_up f t (.inr (6, [.ref u, .int (nI tl), .int (nI (numQ (numP tx tl tp lo hi) tp))]))) := by
  refine mI_of (cc := cX5_readNumber) (maxL := 6) (by decide) rfl (Nat.le_of_ble_eq_true rfl) ?_
  intro p e s m below meth c A ls Q hx hb hml hown hts hlocks hA hin0 hw hl hret
  have hown : s.vm.findClass RX5 = some m.cls := hown
  have hl : lv_has ls 6 [(0, .ref t), (1, .int lo), (2, .int hi)] := hl
  have hi5 : ∀ w ∈ u_ws RX5 TX5 3, w ∈ wsX5_readNumber := by decide +kernel
  refine lv_aload_n hx hb dX5_readNumber_0 rfl (lv_at hl 0 rfl) ?_
  refine wg (C := RX5) (T := TX5) (N := 3) hx hb hts hi5 hown hw hLt hft rfl 2 (by decide) (hts (.fieldLink RX5 19 "LayerMoisture$Text" "place" "I") (by decide +kernel)) (fun _ h9 => h9) (v := .int (nI tp)) rfl dX5_readNumber_1 ?_
  refine lv_istore_n (lv' := [(3, .int (nI tp)), (0, .ref t), (1, .int lo), (2, .int hi)]) hx hb dX5_readNumber_4 rfl hl (by decide) rfl (fun ls hl => ?_)
  refine lv_iconst (v := 0) hx hb dX5_readNumber_5 (by decide) ?_
  refine lv_istore (lv' := [(4, .int 0), (3, .int (nI tp)), (0, .ref t), (1, .int lo), (2, .int hi)]) hx hb dX5_readNumber_6 hl (by decide) rfl (fun ls hl => ?_)
  refine lv_iconst (v := 0) hx hb dX5_readNumber_8 (by decide) ?_
  refine lv_istore (lv' := [(5, .int 0), (4, .int 0), (3, .int (nI tp)), (0, .ref t), (1, .int lo), (2, .int hi)]) hx hb dX5_readNumber_9 hl (by decide) rfl (fun ls hl => ?_)
  have loop : ∀ (kf i p2 : Nat) (v : Int32), i + kf = 3 → p2 ≤ tl → scanN tx tl kf p2 v = scanN tx tl 3 tp 0 → ∀ (H : Heap) (locs : List Loc), ww G dA A s L (va_up f t (.inr (6, [.ref u, .int (nI tl), .int (nI p2)]))) H locs → ∀ (ls : Array Slot), lv_has ls 6 [(0, .ref t), (1, .int lo), (2, .int hi), (3, .int (nI tp)), (4, .int v), (5, .int (nI i))] → W p l e ({ frames := 3, cells := 0, slots := 0, locals := 60 } : Room) s m ([.ref t, .int lo, .int hi] : List Value).toArray below meth c H locs 0 0 Q (F0 m 11 ls []) := by
    intro kf
    induction kf with
    | zero =>
      intro i p2 v hik hp2 hsc H locs hw ls hl
      have sc1 : (scanN tx tl 3 tp 0).1 = p2 := by rw [← hsc]; rfl
      have sc2 : (scanN tx tl 3 tp 0).2 = v := by rw [← hsc]; rfl
      obtain ⟨f1, ef1⟩ : ∃ z : Nat → va_E, z = va_up f t (.inr (6, [.ref u, .int (nI tl), .int (nI p2)])) := ⟨_, rfl⟩
      have hw : ww G dA A s L f1 H locs := by rw [ef1]; exact hw
      have h2 : f1 t = .inr (6, [.ref u, .int (nI tl), .int (nI p2)]) := by rw [ef1]; exact va_up_self _ _ _
      have h3 : f1 u = aI (dA 0) 200 tx := by rw [ef1, va_up_ne _ _ (fun h => by have h1 := hfu; rw [h, hft] at h1; cases h1)]; exact hfu
      refine lv_iload hx hb dX5_readNumber_11 (lv_at hl 5 rfl) ?_
      refine lv_iconst (v := 3) hx hb dX5_readNumber_13 (by decide) ?_
      refine lv_icmp_ge (tgt := 55) hx hb dX5_readNumber_14 (by decide) (fun _ => ?_) (fun c9 => absurd (show nI 3 ≤ nI i from nI_le (by omega) (by omega)) c9)
      refine lv_aload_n hx hb dX5_readNumber_55 rfl (lv_at hl 0 rfl) ?_
      refine wg (C := RX5) (T := TX5) (N := 3) hx hb hts hi5 hown hw hLt h2 rfl 2 (by decide) (hts (.fieldLink RX5 19 "LayerMoisture$Text" "place" "I") (by decide +kernel)) (fun _ h9 => h9) (v := .int (nI p2)) rfl dX5_readNumber_56 ?_
      refine lv_iload_n hx hb dX5_readNumber_59 rfl (lv_at hl 3 rfl) ?_
      refine lv_icmp_ne (tgt := 65) hx hb dX5_readNumber_60 (by decide) (fun c60 => ?_) (fun c60 => ?_)
      · have q60 : ¬ p2 = tp := fun q => c60 (by rw [q])
        refine lv_iload hx hb dX5_readNumber_65 (lv_at hl 4 rfl) ?_
        refine lv_iload_n hx hb dX5_readNumber_67 rfl (lv_at hl 1 rfl) ?_
        refine lv_icmp_lt (tgt := 77) hx hb dX5_readNumber_68 (by decide) (fun c68 => ?_) (fun c68 => ?_)
        · have e9 : numP tx tl tp lo hi = none := if_pos (Or.inr (Or.inl (by rw [sc2]; exact c68)))
          refine lv_aload_n hx hb dX5_readNumber_77 rfl (lv_at hl 0 rfl) ?_
          refine lv_iload_n hx hb dX5_readNumber_78 rfl (lv_at hl 3 rfl) ?_
          refine wp_ (C := RX5) (T := TX5) (N := 3) hx hb hts hi5 tyX5 tyX5_ok nmX5 hown hw hLt h2 rfl 2 (by decide) (hts (.fieldLink RX5 19 "LayerMoisture$Text" "place" "I") (by decide +kernel)) (fun _ h9 => h9) rfl (ty := .int) (v := .int (nI tp)) (by decide +kernel) rfl rfl (Nat.le_of_ble_eq_true rfl) dX5_readNumber_79 (fun H locs hw => ?_)
          obtain ⟨f4, ef4⟩ : ∃ z : Nat → va_E, z = va_up f1 t (.inr (6, [.ref u, .int (nI tl), .int (nI tp)])) := ⟨_, rfl⟩
          have hw : ww G dA A s L f4 H locs := by rw [ef4]; exact hw
          have h5 : f4 t = .inr (6, [.ref u, .int (nI tl), .int (nI tp)]) := by rw [ef4]; exact va_up_self _ _ _
          have h6 : f4 u = aI (dA 0) 200 tx := by rw [ef4, va_up_ne _ _ (fun h => by have h1 := h3; rw [h, h2] at h1; cases h1)]; exact h3
          refine lv_iconst (v := (-1)) hx hb dX5_readNumber_82 (by decide) ?_
          exact hret _ _ _ _ _ _ hw ⟨by rw [e9]; rfl, by rw [e9, ef4, ef1, bx_uu]; rfl⟩ rfl dX5_readNumber_83
        · refine lv_iload hx hb dX5_readNumber_71 (lv_at hl 4 rfl) ?_
          refine lv_iload_n hx hb dX5_readNumber_73 rfl (lv_at hl 2 rfl) ?_
          refine lv_icmp_le (tgt := 84) hx hb dX5_readNumber_74 (by decide) (fun c74 => ?_) (fun c74 => ?_)
          · have e9 : numP tx tl tp lo hi = some (p2, v) := by rw [numP, if_neg (by rw [sc1, sc2]; exact fun q => q.elim q60 (fun q => q.elim c68 (fun q => absurd q (Int32.not_lt.mpr c74))))]; exact congrArg some (Prod.ext sc1 sc2)
            refine lv_iload hx hb dX5_readNumber_84 (lv_at hl 4 rfl) ?_
            exact hret _ _ _ _ _ _ hw ⟨by rw [e9]; rfl, by rw [e9, ef1]; rfl⟩ rfl dX5_readNumber_86
          · have e9 : numP tx tl tp lo hi = none := if_pos (Or.inr (Or.inr (by rw [sc2]; exact Int32.not_le.mp c74)))
            refine lv_aload_n hx hb dX5_readNumber_77 rfl (lv_at hl 0 rfl) ?_
            refine lv_iload_n hx hb dX5_readNumber_78 rfl (lv_at hl 3 rfl) ?_
            refine wp_ (C := RX5) (T := TX5) (N := 3) hx hb hts hi5 tyX5 tyX5_ok nmX5 hown hw hLt h2 rfl 2 (by decide) (hts (.fieldLink RX5 19 "LayerMoisture$Text" "place" "I") (by decide +kernel)) (fun _ h9 => h9) rfl (ty := .int) (v := .int (nI tp)) (by decide +kernel) rfl rfl (Nat.le_of_ble_eq_true rfl) dX5_readNumber_79 (fun H locs hw => ?_)
            obtain ⟨f7, ef7⟩ : ∃ z : Nat → va_E, z = va_up f1 t (.inr (6, [.ref u, .int (nI tl), .int (nI tp)])) := ⟨_, rfl⟩
            have hw : ww G dA A s L f7 H locs := by rw [ef7]; exact hw
            have h8 : f7 t = .inr (6, [.ref u, .int (nI tl), .int (nI tp)]) := by rw [ef7]; exact va_up_self _ _ _
            have h9 : f7 u = aI (dA 0) 200 tx := by rw [ef7, va_up_ne _ _ (fun h => by have h1 := h3; rw [h, h2] at h1; cases h1)]; exact h3
            refine lv_iconst (v := (-1)) hx hb dX5_readNumber_82 (by decide) ?_
            exact hret _ _ _ _ _ _ hw ⟨by rw [e9]; rfl, by rw [e9, ef7, ef1, bx_uu]; rfl⟩ rfl dX5_readNumber_83
      · have q60 : p2 = tp := (nI_eq (by omega) (by omega)).mp c60
        have e9 : numP tx tl tp lo hi = none := if_pos (Or.inl (sc1.trans q60))
        refine lv_iconst (v := (-1)) hx hb dX5_readNumber_63 (by decide) ?_
        exact hret _ _ _ _ _ _ hw ⟨by rw [e9]; rfl, by rw [e9, ef1, q60]; rfl⟩ rfl dX5_readNumber_64
    | succ kf ih =>
      intro i p2 v hik hp2 hsc H locs hw ls hl
      obtain ⟨f10, ef10⟩ : ∃ z : Nat → va_E, z = va_up f t (.inr (6, [.ref u, .int (nI tl), .int (nI p2)])) := ⟨_, rfl⟩
      have hw : ww G dA A s L f10 H locs := by rw [ef10]; exact hw
      have h11 : f10 t = .inr (6, [.ref u, .int (nI tl), .int (nI p2)]) := by rw [ef10]; exact va_up_self _ _ _
      have h12 : f10 u = aI (dA 0) 200 tx := by rw [ef10, va_up_ne _ _ (fun h => by have h1 := hfu; rw [h, hft] at h1; cases h1)]; exact hfu
      refine lv_iload hx hb dX5_readNumber_11 (lv_at hl 5 rfl) ?_
      refine lv_iconst (v := 3) hx hb dX5_readNumber_13 (by decide) ?_
      refine lv_icmp_ge (tgt := 55) hx hb dX5_readNumber_14 (by decide) (fun c9 => absurd c9 (show ¬ nI 3 ≤ nI i from nI_ge (by omega) (by omega))) (fun _ => ?_)
      refine lv_aload_n hx hb dX5_readNumber_17 rfl (lv_at hl 0 rfl) ?_
      refine kV_I (C := RX5) (T := TX5) (N := 3) (As := []) (rest := []) ⟨hx, hb, hml, hown, hts⟩ (c_X5_isAtDigit l G dA L f10 t u tl p2 tx hLt h11 hLu h12 htl (by omega) hok) (cwV 0 hts gX5_readNumber_X5_isAtDigit rfl rfl rfl (by decide +kernel) ⟨Nat.le_of_ble_eq_true rfl, Nat.le_of_ble_eq_true rfl⟩) hw hA hLt h11 rfl rfl hl.1 rfl (Nat.le_of_ble_eq_true rfl) dX5_readNumber_18 ⟨Nat.zero_le _, Nat.zero_le _⟩ (fun r13 f14 H locs hp hw => ?_)
      obtain ⟨e1, e2⟩ := hp
      rw [e2] at hw
      rw [e1]
      refine lv_if_eq (tgt := 55) hx hb dX5_readNumber_21 (by decide) (fun c21 => ?_) (fun c21 => ?_)
      · have h9 : ¬ isD tx tl p2 = true := fun q => by rw [q] at c21; exact absurd c21 (by decide)
        have h8 : scanN tx tl (kf + 1) p2 v = (p2, v) := if_neg h9
        have sc1 : (scanN tx tl 3 tp 0).1 = p2 := by rw [← hsc, h8]
        have sc2 : (scanN tx tl 3 tp 0).2 = v := by rw [← hsc, h8]
        refine lv_aload_n hx hb dX5_readNumber_55 rfl (lv_at hl 0 rfl) ?_
        refine wg (C := RX5) (T := TX5) (N := 3) hx hb hts hi5 hown hw hLt h11 rfl 2 (by decide) (hts (.fieldLink RX5 19 "LayerMoisture$Text" "place" "I") (by decide +kernel)) (fun _ h9 => h9) (v := .int (nI p2)) rfl dX5_readNumber_56 ?_
        refine lv_iload_n hx hb dX5_readNumber_59 rfl (lv_at hl 3 rfl) ?_
        refine lv_icmp_ne (tgt := 65) hx hb dX5_readNumber_60 (by decide) (fun c60 => ?_) (fun c60 => ?_)
        · have q60 : ¬ p2 = tp := fun q => c60 (by rw [q])
          refine lv_iload hx hb dX5_readNumber_65 (lv_at hl 4 rfl) ?_
          refine lv_iload_n hx hb dX5_readNumber_67 rfl (lv_at hl 1 rfl) ?_
          refine lv_icmp_lt (tgt := 77) hx hb dX5_readNumber_68 (by decide) (fun c68 => ?_) (fun c68 => ?_)
          · have e9 : numP tx tl tp lo hi = none := if_pos (Or.inr (Or.inl (by rw [sc2]; exact c68)))
            refine lv_aload_n hx hb dX5_readNumber_77 rfl (lv_at hl 0 rfl) ?_
            refine lv_iload_n hx hb dX5_readNumber_78 rfl (lv_at hl 3 rfl) ?_
            refine wp_ (C := RX5) (T := TX5) (N := 3) hx hb hts hi5 tyX5 tyX5_ok nmX5 hown hw hLt h11 rfl 2 (by decide) (hts (.fieldLink RX5 19 "LayerMoisture$Text" "place" "I") (by decide +kernel)) (fun _ h9 => h9) rfl (ty := .int) (v := .int (nI tp)) (by decide +kernel) rfl rfl (Nat.le_of_ble_eq_true rfl) dX5_readNumber_79 (fun H locs hw => ?_)
            obtain ⟨f15, ef15⟩ : ∃ z : Nat → va_E, z = va_up f10 t (.inr (6, [.ref u, .int (nI tl), .int (nI tp)])) := ⟨_, rfl⟩
            have hw : ww G dA A s L f15 H locs := by rw [ef15]; exact hw
            have h16 : f15 t = .inr (6, [.ref u, .int (nI tl), .int (nI tp)]) := by rw [ef15]; exact va_up_self _ _ _
            have h17 : f15 u = aI (dA 0) 200 tx := by rw [ef15, va_up_ne _ _ (fun h => by have h1 := h12; rw [h, h11] at h1; cases h1)]; exact h12
            refine lv_iconst (v := (-1)) hx hb dX5_readNumber_82 (by decide) ?_
            exact hret _ _ _ _ _ _ hw ⟨by rw [e9]; rfl, by rw [e9, ef15, ef10, bx_uu]; rfl⟩ rfl dX5_readNumber_83
          · refine lv_iload hx hb dX5_readNumber_71 (lv_at hl 4 rfl) ?_
            refine lv_iload_n hx hb dX5_readNumber_73 rfl (lv_at hl 2 rfl) ?_
            refine lv_icmp_le (tgt := 84) hx hb dX5_readNumber_74 (by decide) (fun c74 => ?_) (fun c74 => ?_)
            · have e9 : numP tx tl tp lo hi = some (p2, v) := by rw [numP, if_neg (by rw [sc1, sc2]; exact fun q => q.elim q60 (fun q => q.elim c68 (fun q => absurd q (Int32.not_lt.mpr c74))))]; exact congrArg some (Prod.ext sc1 sc2)
              refine lv_iload hx hb dX5_readNumber_84 (lv_at hl 4 rfl) ?_
              exact hret _ _ _ _ _ _ hw ⟨by rw [e9]; rfl, by rw [e9, ef10]; rfl⟩ rfl dX5_readNumber_86
            · have e9 : numP tx tl tp lo hi = none := if_pos (Or.inr (Or.inr (by rw [sc2]; exact Int32.not_le.mp c74)))
              refine lv_aload_n hx hb dX5_readNumber_77 rfl (lv_at hl 0 rfl) ?_
              refine lv_iload_n hx hb dX5_readNumber_78 rfl (lv_at hl 3 rfl) ?_
              refine wp_ (C := RX5) (T := TX5) (N := 3) hx hb hts hi5 tyX5 tyX5_ok nmX5 hown hw hLt h11 rfl 2 (by decide) (hts (.fieldLink RX5 19 "LayerMoisture$Text" "place" "I") (by decide +kernel)) (fun _ h9 => h9) rfl (ty := .int) (v := .int (nI tp)) (by decide +kernel) rfl rfl (Nat.le_of_ble_eq_true rfl) dX5_readNumber_79 (fun H locs hw => ?_)
              obtain ⟨f18, ef18⟩ : ∃ z : Nat → va_E, z = va_up f10 t (.inr (6, [.ref u, .int (nI tl), .int (nI tp)])) := ⟨_, rfl⟩
              have hw : ww G dA A s L f18 H locs := by rw [ef18]; exact hw
              have h19 : f18 t = .inr (6, [.ref u, .int (nI tl), .int (nI tp)]) := by rw [ef18]; exact va_up_self _ _ _
              have h20 : f18 u = aI (dA 0) 200 tx := by rw [ef18, va_up_ne _ _ (fun h => by have h1 := h12; rw [h, h11] at h1; cases h1)]; exact h12
              refine lv_iconst (v := (-1)) hx hb dX5_readNumber_82 (by decide) ?_
              exact hret _ _ _ _ _ _ hw ⟨by rw [e9]; rfl, by rw [e9, ef18, ef10, bx_uu]; rfl⟩ rfl dX5_readNumber_83
        · have q60 : p2 = tp := (nI_eq (by omega) (by omega)).mp c60
          have e9 : numP tx tl tp lo hi = none := if_pos (Or.inl (sc1.trans q60))
          refine lv_iconst (v := (-1)) hx hb dX5_readNumber_63 (by decide) ?_
          exact hret _ _ _ _ _ _ hw ⟨by rw [e9]; rfl, by rw [e9, ef10, q60]; rfl⟩ rfl dX5_readNumber_64
      · have h9 : isD tx tl p2 = true := by cases hq : isD tx tl p2 with | true => rfl | false => rw [hq] at c21; exact absurd rfl c21
        refine lv_iload hx hb dX5_readNumber_24 (lv_at hl 4 rfl) ?_
        refine lv_bipush (v := 10) hx hb dX5_readNumber_26 (by decide) ?_
        refine lv_imul hx hb dX5_readNumber_28 ?_
        rw [show v * 10 = v * 10 from rfl]
        refine lv_aload_n hx hb dX5_readNumber_29 rfl (lv_at hl 0 rfl) ?_
        refine kV_I (C := RX5) (T := TX5) (N := 3) (As := []) (rest := [.int (v * 10)]) ⟨hx, hb, hml, hown, hts⟩ (c_X5_next l G dA L f10 t u tl p2 tx hLt h11 hLu h12 htl (by omega) hok) (cwV 0 hts gX5_readNumber_X5_next rfl rfl rfl (by decide +kernel) ⟨Nat.le_of_ble_eq_true rfl, Nat.le_of_ble_eq_true rfl⟩) hw hA hLt h11 rfl rfl hl.1 rfl (Nat.le_of_ble_eq_true rfl) dX5_readNumber_30 ⟨Nat.zero_le _, Nat.zero_le _⟩ (fun r21 f22 H locs hp hw => ?_)
        obtain ⟨e1, e2⟩ := hp
        rw [e2] at hw
        rw [e1]
        refine lv_bipush (v := 48) hx hb dX5_readNumber_33 (by decide) ?_
        refine lv_isub hx hb dX5_readNumber_35 ?_
        rw [show (nxt tx tl p2) - 48 = nxt tx tl p2 - 48 from rfl]
        refine lv_iadd hx hb dX5_readNumber_36 ?_
        rw [show (v * 10) + (nxt tx tl p2 - 48) = v * 10 + (nxt tx tl p2 - 48) from rfl]
        refine lv_istore (lv' := [(4, .int (v * 10 + (nxt tx tl p2 - 48))), (0, .ref t), (1, .int lo), (2, .int hi), (3, .int (nI tp)), (5, .int (nI i))]) hx hb dX5_readNumber_37 hl (by decide) rfl (fun ls hl => ?_)
        refine lv_aload_n hx hb dX5_readNumber_39 rfl (lv_at hl 1 rfl) ?_
        refine lv_dup hx hb dX5_readNumber_40 rfl ?_
        refine wg (C := RX5) (T := TX5) (N := 3) hx hb hts hi5 hown hw hLt h11 rfl 2 (by decide) (hts (.fieldLink RX5 19 "LayerMoisture$Text" "place" "I") (by decide +kernel)) (fun _ h9 => h9) (v := .int (nI p2)) rfl dX5_readNumber_41 ?_
        refine lv_iconst (v := 1) hx hb dX5_readNumber_44 (by decide) ?_
        refine lv_iadd hx hb dX5_readNumber_45 ?_
        rw [show (nI p2) + 1 = nI (p2 + 1) from nI_1 p2]
        refine wp_ (C := RX5) (T := TX5) (N := 3) hx hb hts hi5 tyX5 tyX5_ok nmX5 hown hw hLt h11 rfl 2 (by decide) (hts (.fieldLink RX5 19 "LayerMoisture$Text" "place" "I") (by decide +kernel)) (fun _ h9 => h9) rfl (ty := .int) (v := .int (nI (p2 + 1))) (by decide +kernel) rfl rfl (Nat.le_of_ble_eq_true rfl) dX5_readNumber_46 (fun H locs hw => ?_)
        obtain ⟨f23, ef23⟩ : ∃ z : Nat → va_E, z = va_up f10 t (.inr (6, [.ref u, .int (nI tl), .int (nI (p2 + 1))])) := ⟨_, rfl⟩
        have hw : ww G dA A s L f23 H locs := by rw [ef23]; exact hw
        have h24 : f23 t = .inr (6, [.ref u, .int (nI tl), .int (nI (p2 + 1))]) := by rw [ef23]; exact va_up_self _ _ _
        have h25 : f23 u = aI (dA 0) 200 tx := by rw [ef23, va_up_ne _ _ (fun h => by have h1 := h12; rw [h, h11] at h1; cases h1)]; exact h12
        refine lv_iinc (v := nI (i + 1)) (lv' := [(5, .int (nI (i + 1))), (4, .int (v * 10 + (nxt tx tl p2 - 48))), (0, .ref t), (1, .int lo), (2, .int hi), (3, .int (nI tp))]) hx hb dX5_readNumber_49 hl (k := 5) rfl (nI_1 i) (by decide) rfl (fun ls hl => ?_)
        refine lv_goto (tgt := 11) hx hb dX5_readNumber_52 (by decide) ?_
        rw [ef23, ef10, bx_uu] at hw
        exact ih (i + 1) (p2 + 1) _ (by omega) (isD_lt h9) (by rw [← hsc]; exact (if_pos h9).symm) _ _ hw ls (lv_sub hl [2, 3, 4, 5, 1, 0] rfl)
  have hw : ww G dA A s L (va_up f t (.inr (6, [.ref u, .int (nI tl), .int (nI tp)]))) s.heap [] := by rw [va_up_id hft]; exact hw
  exact loop 3 0 tp 0 rfl htp rfl _ _ hw ls (lv_sub hl [3, 4, 5, 2, 1, 0] rfl)
end
section
/-! ===== the plan's cells and the text's, as one ===== -/
def pw (dA : Nat → ClassId) (f : Nat → va_E) (pb pt pk pd t u tl : Nat) (B T K D : Nat → Int32) (p : Nat) : Nat → va_E :=
  va_up (va_up (va_up (va_up (va_up f pb (aI (dA 3) 12 B)) pt (aI (dA 2) 12 T)) pk (aI (dA 2) 12 K)) pd (aI (dA 2) 12 D)) t (.inr (6, [.ref u, .int (nI tl), .int (nI p)]))
section PW
variable {dA : Nat → ClassId} {f : Nat → va_E} {pl pb pt pk pd t u tl : Nat} {B T K D : Nat → Int32} {p : Nat}
theorem pw_id (hb : f pb = aI (dA 3) 12 B) (ht : f pt = aI (dA 2) 12 T) (hk : f pk = aI (dA 2) 12 K) (hd : f pd = aI (dA 2) 12 D) (hx : f t = .inr (6, [.ref u, .int (nI tl), .int (nI p)])) : pw dA f pb pt pk pd t u tl B T K D p = f := by
  unfold pw
  rw [va_up_id hb, va_up_id ht, va_up_id hk, va_up_id hd, va_up_id hx]
theorem pw_t : pw dA f pb pt pk pd t u tl B T K D p t = .inr (6, [.ref u, .int (nI tl), .int (nI p)]) := va_up_self _ _ _
theorem pw_off {z : Nat} (hb : z ≠ pb) (ht : z ≠ pt) (hk : z ≠ pk) (hd : z ≠ pd) (hx : z ≠ t) : pw dA f pb pt pk pd t u tl B T K D p z = f z := by
  unfold pw
  rw [va_up_ne _ _ hx, va_up_ne _ _ hd, va_up_ne _ _ hk, va_up_ne _ _ ht, va_up_ne _ _ hb]
theorem pw_pl (h : [pl, pb, pt, pk, pd, t, u].Nodup) : pw dA f pb pt pk pd t u tl B T K D p pl = f pl := by
  simp only [List.nodup_cons, List.mem_cons, not_or, List.not_mem_nil] at h
  exact pw_off h.1.1 h.1.2.1 h.1.2.2.1 h.1.2.2.2.1 h.1.2.2.2.2.1
theorem pw_u (h : [pl, pb, pt, pk, pd, t, u].Nodup) : pw dA f pb pt pk pd t u tl B T K D p u = f u := by
  simp only [List.nodup_cons, List.mem_cons, not_or, List.not_mem_nil] at h
  obtain ⟨h0, h1, h2, h3, h4, h5, -⟩ := h
  exact pw_off (Ne.symm h1.2.2.2.2.1) (Ne.symm h2.2.2.2.1) (Ne.symm h3.2.2.1) (Ne.symm h4.2.1) (Ne.symm h5.1)
theorem pw_b (h : [pl, pb, pt, pk, pd, t, u].Nodup) : pw dA f pb pt pk pd t u tl B T K D p pb = aI (dA 3) 12 B := by
  simp only [List.nodup_cons, List.mem_cons, not_or, List.not_mem_nil] at h
  obtain ⟨h0, h1, -⟩ := h
  unfold pw
  rw [va_up_ne _ _ h1.2.2.2.1, va_up_ne _ _ h1.2.2.1, va_up_ne _ _ h1.2.1, va_up_ne _ _ h1.1, va_up_self]
theorem pw_tm (h : [pl, pb, pt, pk, pd, t, u].Nodup) : pw dA f pb pt pk pd t u tl B T K D p pt = aI (dA 2) 12 T := by
  simp only [List.nodup_cons, List.mem_cons, not_or, List.not_mem_nil] at h
  obtain ⟨h0, h1, h2, -⟩ := h
  unfold pw
  rw [va_up_ne _ _ h2.2.2.1, va_up_ne _ _ h2.2.1, va_up_ne _ _ h2.1, va_up_self]
theorem pw_k (h : [pl, pb, pt, pk, pd, t, u].Nodup) : pw dA f pb pt pk pd t u tl B T K D p pk = aI (dA 2) 12 K := by
  simp only [List.nodup_cons, List.mem_cons, not_or, List.not_mem_nil] at h
  obtain ⟨h0, h1, h2, h3, -⟩ := h
  unfold pw
  rw [va_up_ne _ _ h3.2.1, va_up_ne _ _ h3.1, va_up_self]
theorem pw_d (h : [pl, pb, pt, pk, pd, t, u].Nodup) : pw dA f pb pt pk pd t u tl B T K D p pd = aI (dA 2) 12 D := by
  simp only [List.nodup_cons, List.mem_cons, not_or, List.not_mem_nil] at h
  obtain ⟨h0, h1, h2, h3, h4, -⟩ := h
  unfold pw
  rw [va_up_ne _ _ h4.1, va_up_self]
theorem up_comm {α : Type} (f : Nat → α) {a b : Nat} (v w : α) (h : a ≠ b) : va_up (va_up f a v) b w = va_up (va_up f b w) a v := by
  funext z
  by_cases h1 : z = a
  · subst h1; rw [va_up_ne _ _ h, va_up_self, va_up_self]
  · by_cases h2 : z = b
    · subst h2; rw [va_up_self, va_up_ne _ _ h1, va_up_self]
    · rw [va_up_ne _ _ h2, va_up_ne _ _ h1, va_up_ne _ _ h1, va_up_ne _ _ h2]
theorem pw_st (p2 : Nat) : va_up (pw dA f pb pt pk pd t u tl B T K D p) t (.inr (6, [.ref u, .int (nI tl), .int (nI p2)])) = pw dA f pb pt pk pd t u tl B T K D p2 := bx_uu _ _ _ _
theorem pw_sb (h : [pl, pb, pt, pk, pd, t, u].Nodup) (X : Nat → Int32) : va_up (pw dA f pb pt pk pd t u tl B T K D p) pb (aI (dA 3) 12 X) = pw dA f pb pt pk pd t u tl X T K D p := by
  simp only [List.nodup_cons, List.mem_cons, not_or, List.not_mem_nil] at h
  obtain ⟨h0, h1, -⟩ := h
  unfold pw
  rw [up_comm _ _ _ (Ne.symm h1.2.2.2.1), up_comm _ _ _ (Ne.symm h1.2.2.1), up_comm _ _ _ (Ne.symm h1.2.1), up_comm _ _ _ (Ne.symm h1.1), bx_uu]
theorem pw_stm (h : [pl, pb, pt, pk, pd, t, u].Nodup) (X : Nat → Int32) : va_up (pw dA f pb pt pk pd t u tl B T K D p) pt (aI (dA 2) 12 X) = pw dA f pb pt pk pd t u tl B X K D p := by
  simp only [List.nodup_cons, List.mem_cons, not_or, List.not_mem_nil] at h
  obtain ⟨h0, h1, h2, -⟩ := h
  unfold pw
  rw [up_comm _ _ _ (Ne.symm h2.2.2.1), up_comm _ _ _ (Ne.symm h2.2.1), up_comm _ _ _ (Ne.symm h2.1), bx_uu]
theorem pw_sk (h : [pl, pb, pt, pk, pd, t, u].Nodup) (X : Nat → Int32) : va_up (pw dA f pb pt pk pd t u tl B T K D p) pk (aI (dA 2) 12 X) = pw dA f pb pt pk pd t u tl B T X D p := by
  simp only [List.nodup_cons, List.mem_cons, not_or, List.not_mem_nil] at h
  obtain ⟨h0, h1, h2, h3, -⟩ := h
  unfold pw
  rw [up_comm _ _ _ (Ne.symm h3.2.1), up_comm _ _ _ (Ne.symm h3.1), bx_uu]
theorem pw_sd (h : [pl, pb, pt, pk, pd, t, u].Nodup) (X : Nat → Int32) : va_up (pw dA f pb pt pk pd t u tl B T K D p) pd (aI (dA 2) 12 X) = pw dA f pb pt pk pd t u tl B T K X p := by
  simp only [List.nodup_cons, List.mem_cons, not_or, List.not_mem_nil] at h
  obtain ⟨h0, h1, h2, h3, h4, -⟩ := h
  unfold pw
  rw [up_comm _ _ _ (Ne.symm h4.1), bx_uu]
theorem pw_pw (h : [pl, pb, pt, pk, pd, t, u].Nodup) (B2 T2 K2 D2 : Nat → Int32) (p2 : Nat) : pw dA (pw dA f pb pt pk pd t u tl B T K D p) pb pt pk pd t u tl B2 T2 K2 D2 p2 = pw dA f pb pt pk pd t u tl B2 T2 K2 D2 p2 := by
  conv => lhs; unfold pw
  rw [show va_up (va_up (va_up (va_up (va_up f pb (aI (dA 3) 12 B)) pt (aI (dA 2) 12 T)) pk (aI (dA 2) 12 K)) pd (aI (dA 2) 12 D)) t (.inr (6, [.ref u, .int (nI tl), .int (nI p)])) = pw dA f pb pt pk pd t u tl B T K D p from rfl, pw_sb h, pw_stm h, pw_sk h, pw_sd h, pw_st]
end PW
/-- one step of the schedule from the place p: where it fails, or the place behind it and what it says -/
def stepP (tx : Nat → Int32) (tl p : Nat) : Nat ⊕ (Nat × Bool × Int32 × Int32 × Int32) :=
  if nxt tx tl p = (if nxt tx tl p = 104 then 104 else 119) then
    match numP tx tl (p + 1) 0 999 with
    | none => .inl (p + 1)
    | some x => if nxt tx tl x.1 = 58 then
        match numP tx tl (x.1 + 1) 250 400 with
        | none => .inl (x.1 + 1)
        | some y => if nxt tx tl y.1 = 44 then
            match numP tx tl (y.1 + 1) 0 100 with
            | none => .inl (y.1 + 1)
            | some z => .inr (z.1, decide (nxt tx tl p = 104), x.2, y.2, z.2)
          else .inl y.1
      else .inl x.1
  else .inl p
theorem nxt_lt {tx : Nat → Int32} {tl p : Nat} {x : Int32} (h : nxt tx tl p = x) (h0 : x ≠ 0) : p < tl := by
  refine Nat.lt_of_not_le fun q => h0 ?_
  rw [← h]; exact if_neg (Nat.not_lt.mpr q)
theorem numP_le {tx : Nat → Int32} {tl p : Nat} {lo hi : Int32} {x : Nat × Int32} (hp : p ≤ tl) (h : numP tx tl p lo hi = some x) : p < x.1 ∧ x.1 ≤ tl ∧ ¬ x.2 < lo ∧ ¬ hi < x.2 := by
  unfold numP at h
  split at h
  · cases h
  · rename_i q
    cases h
    have h1 := scanN_le (tx := tx) 3 p 0 hp
    exact ⟨by have := fun e => q (Or.inl e); omega, h1.2, fun e => q (Or.inr (Or.inl e)), fun e => q (Or.inr (Or.inr e))⟩
theorem numV_ne {o : Option (Nat × Int32)} (h : ∀ x, o = some x → ¬ x.2 < 0) : numV o = -1 ↔ o = none := by
  cases o with
  | none => exact ⟨fun _ => rfl, fun _ => rfl⟩
  | some x =>
    refine ⟨fun q => ?_, fun q => by cases q⟩
    have h1 := h x rfl
    have q : x.2 = -1 := q
    rw [q] at h1
    exact absurd (by decide) h1
end
section
set_option maxHeartbeats 4000000 in
set_option maxRecDepth 100000 in
theorem c_X4_readStep (l : Launch) (G : va_G) (dA : Nat → ClassId) (L : List Nat) (f : Nat → va_E) (pl pb pt pk pd t u tl tp : Nat) (stp dn : Int32) (B T K D tx : Nat → Int32) (kk : Nat) (hLl : pl ∈ L) (hfl : f pl = .inr (5, [.ref pb, .ref pt, .ref pk, .ref pd, .int stp, .int dn])) (hLb : pb ∈ L) (hfb : f pb = aI (dA 3) 12 B) (hLt0 : pt ∈ L) (hft0 : f pt = aI (dA 2) 12 T) (hLk : pk ∈ L) (hfk : f pk = aI (dA 2) 12 K) (hLd : pd ∈ L) (hfd : f pd = aI (dA 2) 12 D) (hLt : t ∈ L) (hft : f t = .inr (6, [.ref u, .int (nI tl), .int (nI tp)])) (hLu : u ∈ L) (hfu : f u = aI (dA 0) 200 tx) (hnd : [pl, pb, pt, pk, pd, t, u].Nodup) (htl : tl ≤ 200) (htp : tp ≤ tl) (hok : TxOk tx tl) (hkk : kk < 12)  : mI l yX4_readStep wsX4_readStep ({ frames := 4, cells := 0, slots := 0, locals := 85 }) G dA [.ref pl, .ref t, .int (nI kk)] L f (fun r f2 => ∃ (B2 T2 K2 D2 : Nat → Int32) (p2 : Nat), f2 = pw dA f pb pt pk pd t u tl B2 T2 K2 D2 p2 ∧ (∀ j, j ≠ kk → B2 j = B j ∧ T2 j = T j ∧ K2 j = K j ∧ D2 j = D j) ∧ p2 ≤ tl ∧ (match stepP tx tl tp with | .inl q => r = 0 ∧ p2 = q | .inr x => r = 1 ∧ p2 = x.1 ∧ B2 kk = b2i x.2.1 ∧ T2 kk = x.2.2.1 ∧ K2 kk = x.2.2.2.1 ∧ D2 kk = x.2.2.2.2)) := by
  refine mI_of (cc := cX4_readStep) (maxL := 3) (by decide) rfl (Nat.le_of_ble_eq_true rfl) ?_
  intro p e s m below meth c A ls Q hx hb hml hown hts hlocks hA hin0 hw hl hret
  have hown : s.vm.findClass RX4 = some m.cls := hown
  have hl : lv_has ls 3 [(0, .ref pl), (1, .ref t), (2, .int (nI kk))] := hl
  have hi4 : ∀ w ∈ u_ws RX4 TX4 6, w ∈ wsX4_readStep := by decide +kernel
  have hw : ww G dA A s L (pw dA f pb pt pk pd t u tl B T K D tp) s.heap [] := by rw [pw_id hfb hft0 hfk hfd hft]; exact hw
  refine lv_aload_n hx hb dX4_readStep_0 rfl (lv_at hl 0 rfl) ?_
  refine wg (C := RX4) (T := TX4) (N := 6) hx hb hts hi4 hown hw hLl ((pw_pl hnd).trans hfl) rfl 0 (by decide) (hts (.fieldLink RX4 11 "LayerMoisture$Plan" "byHours" "[Z") (by decide +kernel)) (fun _ h9 => h9) (v := .ref pb) rfl dX4_readStep_1 ?_
  refine lv_iload_n hx hb dX4_readStep_4 rfl (lv_at hl 2 rfl) ?_
  refine lv_aload_n hx hb dX4_readStep_5 rfl (lv_at hl 1 rfl) ?_
  refine kV_I (C := RX5) (T := TX5) (N := 3) (As := []) (rest := [.int (nI kk), .ref pb]) ⟨hx, hb, hml, hown, hts⟩ (c_X5_next l G dA L (pw dA f pb pt pk pd t u tl B T K D tp) t u tl tp tx hLt pw_t hLu ((pw_u hnd).trans hfu) htl (by omega) hok) (cwV 0 hts gX4_readStep_X5_next rfl rfl rfl (by decide +kernel) ⟨Nat.le_of_ble_eq_true rfl, Nat.le_of_ble_eq_true rfl⟩) hw hA hLt pw_t rfl rfl hl.1 rfl (Nat.le_of_ble_eq_true rfl) dX4_readStep_6 ⟨Nat.zero_le _, Nat.zero_le _⟩ (fun r1 f2 H locs hp hw => ?_)
  obtain ⟨e1, e2⟩ := hp
  rw [e2] at hw
  rw [e1]
  refine lv_bipush (v := 104) hx hb dX4_readStep_9 (by decide) ?_
  refine lv_icmp_ne (tgt := 18) hx hb dX4_readStep_11 (by decide) (fun c11 => ?_) (fun c11 => ?_)
  · have q11 : ¬ nxt tx tl tp = 104 := c11
    refine lv_iconst (v := 0) hx hb dX4_readStep_18 (by decide) ?_
    refine wst_z hx hb hw hLb (pw_b hnd) kk hkk (by decide) rfl dX4_readStep_19 (fun H locs hw => ?_)
    rw [pw_sb hnd] at hw
    refine lv_aload_n hx hb dX4_readStep_20 rfl (lv_at hl 1 rfl) ?_
    refine lv_aload_n hx hb dX4_readStep_21 rfl (lv_at hl 0 rfl) ?_
    refine wg (C := RX4) (T := TX4) (N := 6) hx hb hts hi4 hown hw hLl ((pw_pl hnd).trans hfl) rfl 0 (by decide) (hts (.fieldLink RX4 11 "LayerMoisture$Plan" "byHours" "[Z") (by decide +kernel)) (fun _ h9 => h9) (v := .ref pb) rfl dX4_readStep_22 ?_
    refine lv_iload_n hx hb dX4_readStep_25 rfl (lv_at hl 2 rfl) ?_
    refine wld_z hx hb hw hLb (pw_b hnd) kk hkk (by decide) rfl dX4_readStep_26 ?_
    rw [show (upd B kk (vp_nar .boolean 0)) kk = 0 from (pk_us.trans (by decide))]
    refine lv_if_eq (tgt := 35) hx hb dX4_readStep_27 (by decide) (fun _ => ?_) (fun c9 => absurd rfl c9)
    refine lv_bipush (v := 119) hx hb dX4_readStep_35 (by decide) ?_
    refine kV_I (C := RX5) (T := TX5) (N := 3) (As := [.int 119]) (rest := []) ⟨hx, hb, hml, hown, hts⟩ (c_X5_pass l G dA L (pw dA f pb pt pk pd t u tl (upd B kk (vp_nar .boolean 0)) T K D tp) t u tl tp tx 119 hLt pw_t hLu ((pw_u hnd).trans hfu) htl (by omega) hok) (cwV 1 hts gX4_readStep_X5_pass rfl rfl rfl (by decide +kernel) ⟨Nat.le_of_ble_eq_true rfl, Nat.le_of_ble_eq_true rfl⟩) hw hA hLt pw_t rfl rfl hl.1 rfl (Nat.le_of_ble_eq_true rfl) dX4_readStep_37 ⟨Nat.zero_le _, Nat.zero_le _⟩ (fun r3 f4 H locs hp hw => ?_)
    obtain ⟨e1, e2⟩ := hp
    rw [e2, pw_st] at hw
    rw [e1]
    refine lv_if_ne (tgt := 45) hx hb dX4_readStep_40 (by decide) (fun c40 => ?_) (fun c40 => ?_)
    · have q40 : nxt tx tl tp = 119 := by cases hq : decide (nxt tx tl tp = 119) with | true => exact of_decide_eq_true hq | false => rw [hq] at c40; exact absurd rfl c40
      have l40 := nxt_lt q40 (by decide)
      have s40 : nxt tx tl tp = (if nxt tx tl tp = 104 then 104 else 119) := by rw [if_neg q11]; exact q40
      have hw : ww G dA A s L (pw dA f pb pt pk pd t u tl (upd B kk (vp_nar .boolean 0)) T K D (tp + 1)) H locs := by rw [if_pos q40] at hw; exact hw
      refine lv_aload_n hx hb dX4_readStep_45 rfl (lv_at hl 0 rfl) ?_
      refine wg (C := RX4) (T := TX4) (N := 6) hx hb hts hi4 hown hw hLl ((pw_pl hnd).trans hfl) rfl 1 (by decide) (hts (.fieldLink RX4 15 "LayerMoisture$Plan" "times" "[I") (by decide +kernel)) (fun _ h9 => h9) (v := .ref pt) rfl dX4_readStep_46 ?_
      refine lv_iload_n hx hb dX4_readStep_49 rfl (lv_at hl 2 rfl) ?_
      refine lv_aload_n hx hb dX4_readStep_50 rfl (lv_at hl 1 rfl) ?_
      refine lv_iconst (v := 0) hx hb dX4_readStep_51 (by decide) ?_
      refine lv_sipush (v := 999) hx hb dX4_readStep_52 (by decide) ?_
      refine kV_I (C := RX5) (T := TX5) (N := 3) (As := [.int 0, .int 999]) (rest := [.int (nI kk), .ref pt]) ⟨hx, hb, hml, hown, hts⟩ (c_X5_readNumber l G dA L (pw dA f pb pt pk pd t u tl (upd B kk (vp_nar .boolean 0)) T K D (tp + 1)) t u tl (tp + 1) tx 0 999 hLt pw_t hLu ((pw_u hnd).trans hfu) htl (by omega) hok) (cwV 2 hts gX4_readStep_X5_readNumber rfl rfl rfl (by decide +kernel) ⟨Nat.le_of_ble_eq_true rfl, Nat.le_of_ble_eq_true rfl⟩) hw hA hLt pw_t rfl rfl hl.1 rfl (Nat.le_of_ble_eq_true rfl) dX4_readStep_55 ⟨Nat.zero_le _, Nat.zero_le _⟩ (fun r5 f6 H locs hp hw => ?_)
      obtain ⟨e1, e2⟩ := hp
      rw [e2, pw_st] at hw
      rw [e1]
      refine wst_i hx hb hw hLt0 (pw_tm hnd) kk hkk (by decide) rfl dX4_readStep_58 (fun H locs hw => ?_)
      rw [pw_stm hnd] at hw
      refine lv_aload_n hx hb dX4_readStep_59 rfl (lv_at hl 0 rfl) ?_
      refine wg (C := RX4) (T := TX4) (N := 6) hx hb hts hi4 hown hw hLl ((pw_pl hnd).trans hfl) rfl 1 (by decide) (hts (.fieldLink RX4 15 "LayerMoisture$Plan" "times" "[I") (by decide +kernel)) (fun _ h9 => h9) (v := .ref pt) rfl dX4_readStep_60 ?_
      refine lv_iload_n hx hb dX4_readStep_63 rfl (lv_at hl 2 rfl) ?_
      refine wld_i hx hb hw hLt0 (pw_tm hnd) kk hkk (by decide) rfl dX4_readStep_64 ?_
      rw [show (upd T kk (numV (numP tx tl (tp + 1) 0 999))) kk = numV (numP tx tl (tp + 1) 0 999) from pk_us]
      refine lv_iconst (v := (-1)) hx hb dX4_readStep_65 (by decide) ?_
      refine lv_icmp_eq (tgt := 78) hx hb dX4_readStep_66 (by decide) (fun c66 => ?_) (fun c66 => ?_)
      · have q66 : numP tx tl (tp + 1) 0 999 = none := (numV_ne (fun x hq => (numP_le (by omega) hq).2.2.1)).mp c66
        have hw : ww G dA A s L (pw dA f pb pt pk pd t u tl (upd B kk (vp_nar .boolean 0)) (upd T kk (-1)) K D (tp + 1)) H locs := by rw [q66] at hw; exact hw
        refine lv_iconst (v := 0) hx hb dX4_readStep_78 (by decide) ?_
        exact hret _ _ _ _ _ _ hw ⟨_, _, _, _, _, rfl, fun j hj => ⟨pk_un hj, pk_un hj, rfl, rfl⟩, (by omega), by rw [show stepP tx tl tp = .inl (tp + 1) from (by rw [stepP, if_pos s40, q66])]; exact ⟨rfl, rfl⟩⟩ (by decide) dX4_readStep_79
      · obtain ⟨x1, q66⟩ : ∃ x, numP tx tl (tp + 1) 0 999 = some x := by cases hq : numP tx tl (tp + 1) 0 999 with | none => rw [hq] at c66; exact absurd rfl c66 | some x => exact ⟨x, rfl⟩
        have l66 := numP_le (by omega) q66
        have hw : ww G dA A s L (pw dA f pb pt pk pd t u tl (upd B kk (vp_nar .boolean 0)) (upd T kk x1.2) K D x1.1) H locs := by rw [q66] at hw; exact hw
        refine lv_aload_n hx hb dX4_readStep_69 rfl (lv_at hl 1 rfl) ?_
        refine lv_bipush (v := 58) hx hb dX4_readStep_70 (by decide) ?_
        refine kV_I (C := RX5) (T := TX5) (N := 3) (As := [.int 58]) (rest := []) ⟨hx, hb, hml, hown, hts⟩ (c_X5_pass l G dA L (pw dA f pb pt pk pd t u tl (upd B kk (vp_nar .boolean 0)) (upd T kk x1.2) K D x1.1) t u tl x1.1 tx 58 hLt pw_t hLu ((pw_u hnd).trans hfu) htl (by omega) hok) (cwV 1 hts gX4_readStep_X5_pass rfl rfl rfl (by decide +kernel) ⟨Nat.le_of_ble_eq_true rfl, Nat.le_of_ble_eq_true rfl⟩) hw hA hLt pw_t rfl rfl hl.1 rfl (Nat.le_of_ble_eq_true rfl) dX4_readStep_72 ⟨Nat.zero_le _, Nat.zero_le _⟩ (fun r7 f8 H locs hp hw => ?_)
        obtain ⟨e1, e2⟩ := hp
        rw [e2, pw_st] at hw
        rw [e1]
        refine lv_if_ne (tgt := 80) hx hb dX4_readStep_75 (by decide) (fun c75 => ?_) (fun c75 => ?_)
        · have q75 : nxt tx tl x1.1 = 58 := by cases hq : decide (nxt tx tl x1.1 = 58) with | true => exact of_decide_eq_true hq | false => rw [hq] at c75; exact absurd rfl c75
          have l75 := nxt_lt q75 (by decide)
          have hw : ww G dA A s L (pw dA f pb pt pk pd t u tl (upd B kk (vp_nar .boolean 0)) (upd T kk x1.2) K D (x1.1 + 1)) H locs := by rw [if_pos q75] at hw; exact hw
          refine lv_aload_n hx hb dX4_readStep_80 rfl (lv_at hl 0 rfl) ?_
          refine wg (C := RX4) (T := TX4) (N := 6) hx hb hts hi4 hown hw hLl ((pw_pl hnd).trans hfl) rfl 2 (by decide) (hts (.fieldLink RX4 19 "LayerMoisture$Plan" "kelvins" "[I") (by decide +kernel)) (fun _ h9 => h9) (v := .ref pk) rfl dX4_readStep_81 ?_
          refine lv_iload_n hx hb dX4_readStep_84 rfl (lv_at hl 2 rfl) ?_
          refine lv_aload_n hx hb dX4_readStep_85 rfl (lv_at hl 1 rfl) ?_
          refine lv_sipush (v := 250) hx hb dX4_readStep_86 (by decide) ?_
          refine lv_sipush (v := 400) hx hb dX4_readStep_89 (by decide) ?_
          refine kV_I (C := RX5) (T := TX5) (N := 3) (As := [.int 250, .int 400]) (rest := [.int (nI kk), .ref pk]) ⟨hx, hb, hml, hown, hts⟩ (c_X5_readNumber l G dA L (pw dA f pb pt pk pd t u tl (upd B kk (vp_nar .boolean 0)) (upd T kk x1.2) K D (x1.1 + 1)) t u tl (x1.1 + 1) tx 250 400 hLt pw_t hLu ((pw_u hnd).trans hfu) htl (by omega) hok) (cwV 2 hts gX4_readStep_X5_readNumber rfl rfl rfl (by decide +kernel) ⟨Nat.le_of_ble_eq_true rfl, Nat.le_of_ble_eq_true rfl⟩) hw hA hLt pw_t rfl rfl hl.1 rfl (Nat.le_of_ble_eq_true rfl) dX4_readStep_92 ⟨Nat.zero_le _, Nat.zero_le _⟩ (fun r9 f10 H locs hp hw => ?_)
          obtain ⟨e1, e2⟩ := hp
          rw [e2, pw_st] at hw
          rw [e1]
          refine wst_i hx hb hw hLk (pw_k hnd) kk hkk (by decide) rfl dX4_readStep_95 (fun H locs hw => ?_)
          rw [pw_sk hnd] at hw
          refine lv_aload_n hx hb dX4_readStep_96 rfl (lv_at hl 0 rfl) ?_
          refine wg (C := RX4) (T := TX4) (N := 6) hx hb hts hi4 hown hw hLl ((pw_pl hnd).trans hfl) rfl 2 (by decide) (hts (.fieldLink RX4 19 "LayerMoisture$Plan" "kelvins" "[I") (by decide +kernel)) (fun _ h9 => h9) (v := .ref pk) rfl dX4_readStep_97 ?_
          refine lv_iload_n hx hb dX4_readStep_100 rfl (lv_at hl 2 rfl) ?_
          refine wld_i hx hb hw hLk (pw_k hnd) kk hkk (by decide) rfl dX4_readStep_101 ?_
          rw [show (upd K kk (numV (numP tx tl (x1.1 + 1) 250 400))) kk = numV (numP tx tl (x1.1 + 1) 250 400) from pk_us]
          refine lv_iconst (v := (-1)) hx hb dX4_readStep_102 (by decide) ?_
          refine lv_icmp_eq (tgt := 115) hx hb dX4_readStep_103 (by decide) (fun c103 => ?_) (fun c103 => ?_)
          · have q103 : numP tx tl (x1.1 + 1) 250 400 = none := (numV_ne (fun x hq => fun h7 => (numP_le (by omega) hq).2.2.1 (Int32.lt_trans h7 (by decide)))).mp c103
            have hw : ww G dA A s L (pw dA f pb pt pk pd t u tl (upd B kk (vp_nar .boolean 0)) (upd T kk x1.2) (upd K kk (-1)) D (x1.1 + 1)) H locs := by rw [q103] at hw; exact hw
            refine lv_iconst (v := 0) hx hb dX4_readStep_115 (by decide) ?_
            exact hret _ _ _ _ _ _ hw ⟨_, _, _, _, _, rfl, fun j hj => ⟨pk_un hj, pk_un hj, pk_un hj, rfl⟩, (by omega), by rw [show stepP tx tl tp = .inl (x1.1 + 1) from (by rw [stepP, if_pos s40, q66]; exact (if_pos q75).trans (by rw [q103]))]; exact ⟨rfl, rfl⟩⟩ (by decide) dX4_readStep_116
          · obtain ⟨x2, q103⟩ : ∃ x, numP tx tl (x1.1 + 1) 250 400 = some x := by cases hq : numP tx tl (x1.1 + 1) 250 400 with | none => rw [hq] at c103; exact absurd rfl c103 | some x => exact ⟨x, rfl⟩
            have l103 := numP_le (by omega) q103
            have hw : ww G dA A s L (pw dA f pb pt pk pd t u tl (upd B kk (vp_nar .boolean 0)) (upd T kk x1.2) (upd K kk x2.2) D x2.1) H locs := by rw [q103] at hw; exact hw
            refine lv_aload_n hx hb dX4_readStep_106 rfl (lv_at hl 1 rfl) ?_
            refine lv_bipush (v := 44) hx hb dX4_readStep_107 (by decide) ?_
            refine kV_I (C := RX5) (T := TX5) (N := 3) (As := [.int 44]) (rest := []) ⟨hx, hb, hml, hown, hts⟩ (c_X5_pass l G dA L (pw dA f pb pt pk pd t u tl (upd B kk (vp_nar .boolean 0)) (upd T kk x1.2) (upd K kk x2.2) D x2.1) t u tl x2.1 tx 44 hLt pw_t hLu ((pw_u hnd).trans hfu) htl (by omega) hok) (cwV 1 hts gX4_readStep_X5_pass rfl rfl rfl (by decide +kernel) ⟨Nat.le_of_ble_eq_true rfl, Nat.le_of_ble_eq_true rfl⟩) hw hA hLt pw_t rfl rfl hl.1 rfl (Nat.le_of_ble_eq_true rfl) dX4_readStep_109 ⟨Nat.zero_le _, Nat.zero_le _⟩ (fun r11 f12 H locs hp hw => ?_)
            obtain ⟨e1, e2⟩ := hp
            rw [e2, pw_st] at hw
            rw [e1]
            refine lv_if_ne (tgt := 117) hx hb dX4_readStep_112 (by decide) (fun c112 => ?_) (fun c112 => ?_)
            · have q112 : nxt tx tl x2.1 = 44 := by cases hq : decide (nxt tx tl x2.1 = 44) with | true => exact of_decide_eq_true hq | false => rw [hq] at c112; exact absurd rfl c112
              have l112 := nxt_lt q112 (by decide)
              have hw : ww G dA A s L (pw dA f pb pt pk pd t u tl (upd B kk (vp_nar .boolean 0)) (upd T kk x1.2) (upd K kk x2.2) D (x2.1 + 1)) H locs := by rw [if_pos q112] at hw; exact hw
              refine lv_aload_n hx hb dX4_readStep_117 rfl (lv_at hl 0 rfl) ?_
              refine wg (C := RX4) (T := TX4) (N := 6) hx hb hts hi4 hown hw hLl ((pw_pl hnd).trans hfl) rfl 3 (by decide) (hts (.fieldLink RX4 22 "LayerMoisture$Plan" "damps" "[I") (by decide +kernel)) (fun _ h9 => h9) (v := .ref pd) rfl dX4_readStep_118 ?_
              refine lv_iload_n hx hb dX4_readStep_121 rfl (lv_at hl 2 rfl) ?_
              refine lv_aload_n hx hb dX4_readStep_122 rfl (lv_at hl 1 rfl) ?_
              refine lv_iconst (v := 0) hx hb dX4_readStep_123 (by decide) ?_
              refine lv_bipush (v := 100) hx hb dX4_readStep_124 (by decide) ?_
              refine kV_I (C := RX5) (T := TX5) (N := 3) (As := [.int 0, .int 100]) (rest := [.int (nI kk), .ref pd]) ⟨hx, hb, hml, hown, hts⟩ (c_X5_readNumber l G dA L (pw dA f pb pt pk pd t u tl (upd B kk (vp_nar .boolean 0)) (upd T kk x1.2) (upd K kk x2.2) D (x2.1 + 1)) t u tl (x2.1 + 1) tx 0 100 hLt pw_t hLu ((pw_u hnd).trans hfu) htl (by omega) hok) (cwV 2 hts gX4_readStep_X5_readNumber rfl rfl rfl (by decide +kernel) ⟨Nat.le_of_ble_eq_true rfl, Nat.le_of_ble_eq_true rfl⟩) hw hA hLt pw_t rfl rfl hl.1 rfl (Nat.le_of_ble_eq_true rfl) dX4_readStep_126 ⟨Nat.zero_le _, Nat.zero_le _⟩ (fun r13 f14 H locs hp hw => ?_)
              obtain ⟨e1, e2⟩ := hp
              rw [e2, pw_st] at hw
              rw [e1]
              refine wst_i hx hb hw hLd (pw_d hnd) kk hkk (by decide) rfl dX4_readStep_129 (fun H locs hw => ?_)
              rw [pw_sd hnd] at hw
              refine lv_aload_n hx hb dX4_readStep_130 rfl (lv_at hl 0 rfl) ?_
              refine wg (C := RX4) (T := TX4) (N := 6) hx hb hts hi4 hown hw hLl ((pw_pl hnd).trans hfl) rfl 3 (by decide) (hts (.fieldLink RX4 22 "LayerMoisture$Plan" "damps" "[I") (by decide +kernel)) (fun _ h9 => h9) (v := .ref pd) rfl dX4_readStep_131 ?_
              refine lv_iload_n hx hb dX4_readStep_134 rfl (lv_at hl 2 rfl) ?_
              refine wld_i hx hb hw hLd (pw_d hnd) kk hkk (by decide) rfl dX4_readStep_135 ?_
              rw [show (upd D kk (numV (numP tx tl (x2.1 + 1) 0 100))) kk = numV (numP tx tl (x2.1 + 1) 0 100) from pk_us]
              refine lv_iconst (v := (-1)) hx hb dX4_readStep_136 (by decide) ?_
              refine lv_icmp_eq (tgt := 144) hx hb dX4_readStep_137 (by decide) (fun c137 => ?_) (fun c137 => ?_)
              · have q137 : numP tx tl (x2.1 + 1) 0 100 = none := (numV_ne (fun x hq => (numP_le (by omega) hq).2.2.1)).mp c137
                have hw : ww G dA A s L (pw dA f pb pt pk pd t u tl (upd B kk (vp_nar .boolean 0)) (upd T kk x1.2) (upd K kk x2.2) (upd D kk (-1)) (x2.1 + 1)) H locs := by rw [q137] at hw; exact hw
                refine lv_iconst (v := 0) hx hb dX4_readStep_144 (by decide) ?_
                exact hret _ _ _ _ _ _ hw ⟨_, _, _, _, _, rfl, fun j hj => ⟨pk_un hj, pk_un hj, pk_un hj, pk_un hj⟩, (by omega), by rw [show stepP tx tl tp = .inl (x2.1 + 1) from (by rw [stepP, if_pos s40, q66]; exact (if_pos q75).trans (by rw [q103]; exact (if_pos q112).trans (by rw [q137])))]; exact ⟨rfl, rfl⟩⟩ (by decide) dX4_readStep_145
              · obtain ⟨x3, q137⟩ : ∃ x, numP tx tl (x2.1 + 1) 0 100 = some x := by cases hq : numP tx tl (x2.1 + 1) 0 100 with | none => rw [hq] at c137; exact absurd rfl c137 | some x => exact ⟨x, rfl⟩
                have l137 := numP_le (by omega) q137
                have hw : ww G dA A s L (pw dA f pb pt pk pd t u tl (upd B kk (vp_nar .boolean 0)) (upd T kk x1.2) (upd K kk x2.2) (upd D kk x3.2) x3.1) H locs := by rw [q137] at hw; exact hw
                refine lv_iconst (v := 1) hx hb dX4_readStep_140 (by decide) ?_
                refine lv_goto (tgt := 145) hx hb dX4_readStep_141 (by decide) ?_
                exact hret _ _ _ _ _ _ hw ⟨_, _, _, _, _, rfl, fun j hj => ⟨pk_un hj, pk_un hj, pk_un hj, pk_un hj⟩, (by omega), by rw [show stepP tx tl tp = .inr (x3.1, decide (nxt tx tl tp = 104), x1.2, x2.2, x3.2) from (by rw [stepP, if_pos s40, q66]; exact (if_pos q75).trans (by rw [q103]; exact (if_pos q112).trans (by rw [q137])))]; exact ⟨rfl, rfl, pk_us.trans (by rw [decide_eq_false q11]; rfl), pk_us, pk_us, pk_us⟩⟩ (by decide) dX4_readStep_145
            · have q112 : ¬ nxt tx tl x2.1 = 44 := fun q => by rw [decide_eq_true q] at c112; exact absurd c112 (by decide)
              have hw : ww G dA A s L (pw dA f pb pt pk pd t u tl (upd B kk (vp_nar .boolean 0)) (upd T kk x1.2) (upd K kk x2.2) D x2.1) H locs := by rw [if_neg q112] at hw; exact hw
              refine lv_iconst (v := 0) hx hb dX4_readStep_115 (by decide) ?_
              exact hret _ _ _ _ _ _ hw ⟨_, _, _, _, _, rfl, fun j hj => ⟨pk_un hj, pk_un hj, pk_un hj, rfl⟩, (by omega), by rw [show stepP tx tl tp = .inl x2.1 from (by rw [stepP, if_pos s40, q66]; exact (if_pos q75).trans (by rw [q103]; exact if_neg q112))]; exact ⟨rfl, rfl⟩⟩ (by decide) dX4_readStep_116
        · have q75 : ¬ nxt tx tl x1.1 = 58 := fun q => by rw [decide_eq_true q] at c75; exact absurd c75 (by decide)
          have hw : ww G dA A s L (pw dA f pb pt pk pd t u tl (upd B kk (vp_nar .boolean 0)) (upd T kk x1.2) K D x1.1) H locs := by rw [if_neg q75] at hw; exact hw
          refine lv_iconst (v := 0) hx hb dX4_readStep_78 (by decide) ?_
          exact hret _ _ _ _ _ _ hw ⟨_, _, _, _, _, rfl, fun j hj => ⟨pk_un hj, pk_un hj, rfl, rfl⟩, (by omega), by rw [show stepP tx tl tp = .inl x1.1 from (by rw [stepP, if_pos s40, q66]; exact if_neg q75)]; exact ⟨rfl, rfl⟩⟩ (by decide) dX4_readStep_79
    · have q40 : ¬ nxt tx tl tp = 119 := fun q => by rw [decide_eq_true q] at c40; exact absurd c40 (by decide)
      have hw : ww G dA A s L (pw dA f pb pt pk pd t u tl (upd B kk (vp_nar .boolean 0)) T K D tp) H locs := by rw [if_neg q40] at hw; exact hw
      refine lv_iconst (v := 0) hx hb dX4_readStep_43 (by decide) ?_
      exact hret _ _ _ _ _ _ hw ⟨_, _, _, _, _, rfl, fun j hj => ⟨pk_un hj, rfl, rfl, rfl⟩, htp, by rw [show stepP tx tl tp = .inl tp from (by rw [stepP]; exact if_neg (by rw [if_neg q11]; exact q40))]; exact ⟨rfl, rfl⟩⟩ (by decide) dX4_readStep_44
  · have q11 : nxt tx tl tp = 104 := c11
    refine lv_iconst (v := 1) hx hb dX4_readStep_14 (by decide) ?_
    refine lv_goto (tgt := 19) hx hb dX4_readStep_15 (by decide) ?_
    refine wst_z hx hb hw hLb (pw_b hnd) kk hkk (by decide) rfl dX4_readStep_19 (fun H locs hw => ?_)
    rw [pw_sb hnd] at hw
    refine lv_aload_n hx hb dX4_readStep_20 rfl (lv_at hl 1 rfl) ?_
    refine lv_aload_n hx hb dX4_readStep_21 rfl (lv_at hl 0 rfl) ?_
    refine wg (C := RX4) (T := TX4) (N := 6) hx hb hts hi4 hown hw hLl ((pw_pl hnd).trans hfl) rfl 0 (by decide) (hts (.fieldLink RX4 11 "LayerMoisture$Plan" "byHours" "[Z") (by decide +kernel)) (fun _ h9 => h9) (v := .ref pb) rfl dX4_readStep_22 ?_
    refine lv_iload_n hx hb dX4_readStep_25 rfl (lv_at hl 2 rfl) ?_
    refine wld_z hx hb hw hLb (pw_b hnd) kk hkk (by decide) rfl dX4_readStep_26 ?_
    rw [show (upd B kk (vp_nar .boolean 1)) kk = 1 from (pk_us.trans (by decide))]
    refine lv_if_eq (tgt := 35) hx hb dX4_readStep_27 (by decide) (fun c9 => absurd c9 (by decide)) (fun _ => ?_)
    refine lv_bipush (v := 104) hx hb dX4_readStep_30 (by decide) ?_
    refine lv_goto (tgt := 37) hx hb dX4_readStep_32 (by decide) ?_
    refine kV_I (C := RX5) (T := TX5) (N := 3) (As := [.int 104]) (rest := []) ⟨hx, hb, hml, hown, hts⟩ (c_X5_pass l G dA L (pw dA f pb pt pk pd t u tl (upd B kk (vp_nar .boolean 1)) T K D tp) t u tl tp tx 104 hLt pw_t hLu ((pw_u hnd).trans hfu) htl (by omega) hok) (cwV 1 hts gX4_readStep_X5_pass rfl rfl rfl (by decide +kernel) ⟨Nat.le_of_ble_eq_true rfl, Nat.le_of_ble_eq_true rfl⟩) hw hA hLt pw_t rfl rfl hl.1 rfl (Nat.le_of_ble_eq_true rfl) dX4_readStep_37 ⟨Nat.zero_le _, Nat.zero_le _⟩ (fun r15 f16 H locs hp hw => ?_)
    obtain ⟨e1, e2⟩ := hp
    rw [e2, pw_st] at hw
    rw [e1]
    refine lv_if_ne (tgt := 45) hx hb dX4_readStep_40 (by decide) (fun c40 => ?_) (fun c40 => ?_)
    · have q40 : nxt tx tl tp = 104 := by cases hq : decide (nxt tx tl tp = 104) with | true => exact of_decide_eq_true hq | false => rw [hq] at c40; exact absurd rfl c40
      have l40 := nxt_lt q40 (by decide)
      have s40 : nxt tx tl tp = (if nxt tx tl tp = 104 then 104 else 119) := by rw [if_pos q11]; exact q40
      have hw : ww G dA A s L (pw dA f pb pt pk pd t u tl (upd B kk (vp_nar .boolean 1)) T K D (tp + 1)) H locs := by rw [if_pos q40] at hw; exact hw
      refine lv_aload_n hx hb dX4_readStep_45 rfl (lv_at hl 0 rfl) ?_
      refine wg (C := RX4) (T := TX4) (N := 6) hx hb hts hi4 hown hw hLl ((pw_pl hnd).trans hfl) rfl 1 (by decide) (hts (.fieldLink RX4 15 "LayerMoisture$Plan" "times" "[I") (by decide +kernel)) (fun _ h9 => h9) (v := .ref pt) rfl dX4_readStep_46 ?_
      refine lv_iload_n hx hb dX4_readStep_49 rfl (lv_at hl 2 rfl) ?_
      refine lv_aload_n hx hb dX4_readStep_50 rfl (lv_at hl 1 rfl) ?_
      refine lv_iconst (v := 0) hx hb dX4_readStep_51 (by decide) ?_
      refine lv_sipush (v := 999) hx hb dX4_readStep_52 (by decide) ?_
      refine kV_I (C := RX5) (T := TX5) (N := 3) (As := [.int 0, .int 999]) (rest := [.int (nI kk), .ref pt]) ⟨hx, hb, hml, hown, hts⟩ (c_X5_readNumber l G dA L (pw dA f pb pt pk pd t u tl (upd B kk (vp_nar .boolean 1)) T K D (tp + 1)) t u tl (tp + 1) tx 0 999 hLt pw_t hLu ((pw_u hnd).trans hfu) htl (by omega) hok) (cwV 2 hts gX4_readStep_X5_readNumber rfl rfl rfl (by decide +kernel) ⟨Nat.le_of_ble_eq_true rfl, Nat.le_of_ble_eq_true rfl⟩) hw hA hLt pw_t rfl rfl hl.1 rfl (Nat.le_of_ble_eq_true rfl) dX4_readStep_55 ⟨Nat.zero_le _, Nat.zero_le _⟩ (fun r17 f18 H locs hp hw => ?_)
      obtain ⟨e1, e2⟩ := hp
      rw [e2, pw_st] at hw
      rw [e1]
      refine wst_i hx hb hw hLt0 (pw_tm hnd) kk hkk (by decide) rfl dX4_readStep_58 (fun H locs hw => ?_)
      rw [pw_stm hnd] at hw
      refine lv_aload_n hx hb dX4_readStep_59 rfl (lv_at hl 0 rfl) ?_
      refine wg (C := RX4) (T := TX4) (N := 6) hx hb hts hi4 hown hw hLl ((pw_pl hnd).trans hfl) rfl 1 (by decide) (hts (.fieldLink RX4 15 "LayerMoisture$Plan" "times" "[I") (by decide +kernel)) (fun _ h9 => h9) (v := .ref pt) rfl dX4_readStep_60 ?_
      refine lv_iload_n hx hb dX4_readStep_63 rfl (lv_at hl 2 rfl) ?_
      refine wld_i hx hb hw hLt0 (pw_tm hnd) kk hkk (by decide) rfl dX4_readStep_64 ?_
      rw [show (upd T kk (numV (numP tx tl (tp + 1) 0 999))) kk = numV (numP tx tl (tp + 1) 0 999) from pk_us]
      refine lv_iconst (v := (-1)) hx hb dX4_readStep_65 (by decide) ?_
      refine lv_icmp_eq (tgt := 78) hx hb dX4_readStep_66 (by decide) (fun c66 => ?_) (fun c66 => ?_)
      · have q66 : numP tx tl (tp + 1) 0 999 = none := (numV_ne (fun x hq => (numP_le (by omega) hq).2.2.1)).mp c66
        have hw : ww G dA A s L (pw dA f pb pt pk pd t u tl (upd B kk (vp_nar .boolean 1)) (upd T kk (-1)) K D (tp + 1)) H locs := by rw [q66] at hw; exact hw
        refine lv_iconst (v := 0) hx hb dX4_readStep_78 (by decide) ?_
        exact hret _ _ _ _ _ _ hw ⟨_, _, _, _, _, rfl, fun j hj => ⟨pk_un hj, pk_un hj, rfl, rfl⟩, (by omega), by rw [show stepP tx tl tp = .inl (tp + 1) from (by rw [stepP, if_pos s40, q66])]; exact ⟨rfl, rfl⟩⟩ (by decide) dX4_readStep_79
      · obtain ⟨x1, q66⟩ : ∃ x, numP tx tl (tp + 1) 0 999 = some x := by cases hq : numP tx tl (tp + 1) 0 999 with | none => rw [hq] at c66; exact absurd rfl c66 | some x => exact ⟨x, rfl⟩
        have l66 := numP_le (by omega) q66
        have hw : ww G dA A s L (pw dA f pb pt pk pd t u tl (upd B kk (vp_nar .boolean 1)) (upd T kk x1.2) K D x1.1) H locs := by rw [q66] at hw; exact hw
        refine lv_aload_n hx hb dX4_readStep_69 rfl (lv_at hl 1 rfl) ?_
        refine lv_bipush (v := 58) hx hb dX4_readStep_70 (by decide) ?_
        refine kV_I (C := RX5) (T := TX5) (N := 3) (As := [.int 58]) (rest := []) ⟨hx, hb, hml, hown, hts⟩ (c_X5_pass l G dA L (pw dA f pb pt pk pd t u tl (upd B kk (vp_nar .boolean 1)) (upd T kk x1.2) K D x1.1) t u tl x1.1 tx 58 hLt pw_t hLu ((pw_u hnd).trans hfu) htl (by omega) hok) (cwV 1 hts gX4_readStep_X5_pass rfl rfl rfl (by decide +kernel) ⟨Nat.le_of_ble_eq_true rfl, Nat.le_of_ble_eq_true rfl⟩) hw hA hLt pw_t rfl rfl hl.1 rfl (Nat.le_of_ble_eq_true rfl) dX4_readStep_72 ⟨Nat.zero_le _, Nat.zero_le _⟩ (fun r19 f20 H locs hp hw => ?_)
        obtain ⟨e1, e2⟩ := hp
        rw [e2, pw_st] at hw
        rw [e1]
        refine lv_if_ne (tgt := 80) hx hb dX4_readStep_75 (by decide) (fun c75 => ?_) (fun c75 => ?_)
        · have q75 : nxt tx tl x1.1 = 58 := by cases hq : decide (nxt tx tl x1.1 = 58) with | true => exact of_decide_eq_true hq | false => rw [hq] at c75; exact absurd rfl c75
          have l75 := nxt_lt q75 (by decide)
          have hw : ww G dA A s L (pw dA f pb pt pk pd t u tl (upd B kk (vp_nar .boolean 1)) (upd T kk x1.2) K D (x1.1 + 1)) H locs := by rw [if_pos q75] at hw; exact hw
          refine lv_aload_n hx hb dX4_readStep_80 rfl (lv_at hl 0 rfl) ?_
          refine wg (C := RX4) (T := TX4) (N := 6) hx hb hts hi4 hown hw hLl ((pw_pl hnd).trans hfl) rfl 2 (by decide) (hts (.fieldLink RX4 19 "LayerMoisture$Plan" "kelvins" "[I") (by decide +kernel)) (fun _ h9 => h9) (v := .ref pk) rfl dX4_readStep_81 ?_
          refine lv_iload_n hx hb dX4_readStep_84 rfl (lv_at hl 2 rfl) ?_
          refine lv_aload_n hx hb dX4_readStep_85 rfl (lv_at hl 1 rfl) ?_
          refine lv_sipush (v := 250) hx hb dX4_readStep_86 (by decide) ?_
          refine lv_sipush (v := 400) hx hb dX4_readStep_89 (by decide) ?_
          refine kV_I (C := RX5) (T := TX5) (N := 3) (As := [.int 250, .int 400]) (rest := [.int (nI kk), .ref pk]) ⟨hx, hb, hml, hown, hts⟩ (c_X5_readNumber l G dA L (pw dA f pb pt pk pd t u tl (upd B kk (vp_nar .boolean 1)) (upd T kk x1.2) K D (x1.1 + 1)) t u tl (x1.1 + 1) tx 250 400 hLt pw_t hLu ((pw_u hnd).trans hfu) htl (by omega) hok) (cwV 2 hts gX4_readStep_X5_readNumber rfl rfl rfl (by decide +kernel) ⟨Nat.le_of_ble_eq_true rfl, Nat.le_of_ble_eq_true rfl⟩) hw hA hLt pw_t rfl rfl hl.1 rfl (Nat.le_of_ble_eq_true rfl) dX4_readStep_92 ⟨Nat.zero_le _, Nat.zero_le _⟩ (fun r21 f22 H locs hp hw => ?_)
          obtain ⟨e1, e2⟩ := hp
          rw [e2, pw_st] at hw
          rw [e1]
          refine wst_i hx hb hw hLk (pw_k hnd) kk hkk (by decide) rfl dX4_readStep_95 (fun H locs hw => ?_)
          rw [pw_sk hnd] at hw
          refine lv_aload_n hx hb dX4_readStep_96 rfl (lv_at hl 0 rfl) ?_
          refine wg (C := RX4) (T := TX4) (N := 6) hx hb hts hi4 hown hw hLl ((pw_pl hnd).trans hfl) rfl 2 (by decide) (hts (.fieldLink RX4 19 "LayerMoisture$Plan" "kelvins" "[I") (by decide +kernel)) (fun _ h9 => h9) (v := .ref pk) rfl dX4_readStep_97 ?_
          refine lv_iload_n hx hb dX4_readStep_100 rfl (lv_at hl 2 rfl) ?_
          refine wld_i hx hb hw hLk (pw_k hnd) kk hkk (by decide) rfl dX4_readStep_101 ?_
          rw [show (upd K kk (numV (numP tx tl (x1.1 + 1) 250 400))) kk = numV (numP tx tl (x1.1 + 1) 250 400) from pk_us]
          refine lv_iconst (v := (-1)) hx hb dX4_readStep_102 (by decide) ?_
          refine lv_icmp_eq (tgt := 115) hx hb dX4_readStep_103 (by decide) (fun c103 => ?_) (fun c103 => ?_)
          · have q103 : numP tx tl (x1.1 + 1) 250 400 = none := (numV_ne (fun x hq => fun h7 => (numP_le (by omega) hq).2.2.1 (Int32.lt_trans h7 (by decide)))).mp c103
            have hw : ww G dA A s L (pw dA f pb pt pk pd t u tl (upd B kk (vp_nar .boolean 1)) (upd T kk x1.2) (upd K kk (-1)) D (x1.1 + 1)) H locs := by rw [q103] at hw; exact hw
            refine lv_iconst (v := 0) hx hb dX4_readStep_115 (by decide) ?_
            exact hret _ _ _ _ _ _ hw ⟨_, _, _, _, _, rfl, fun j hj => ⟨pk_un hj, pk_un hj, pk_un hj, rfl⟩, (by omega), by rw [show stepP tx tl tp = .inl (x1.1 + 1) from (by rw [stepP, if_pos s40, q66]; exact (if_pos q75).trans (by rw [q103]))]; exact ⟨rfl, rfl⟩⟩ (by decide) dX4_readStep_116
          · obtain ⟨x2, q103⟩ : ∃ x, numP tx tl (x1.1 + 1) 250 400 = some x := by cases hq : numP tx tl (x1.1 + 1) 250 400 with | none => rw [hq] at c103; exact absurd rfl c103 | some x => exact ⟨x, rfl⟩
            have l103 := numP_le (by omega) q103
            have hw : ww G dA A s L (pw dA f pb pt pk pd t u tl (upd B kk (vp_nar .boolean 1)) (upd T kk x1.2) (upd K kk x2.2) D x2.1) H locs := by rw [q103] at hw; exact hw
            refine lv_aload_n hx hb dX4_readStep_106 rfl (lv_at hl 1 rfl) ?_
            refine lv_bipush (v := 44) hx hb dX4_readStep_107 (by decide) ?_
            refine kV_I (C := RX5) (T := TX5) (N := 3) (As := [.int 44]) (rest := []) ⟨hx, hb, hml, hown, hts⟩ (c_X5_pass l G dA L (pw dA f pb pt pk pd t u tl (upd B kk (vp_nar .boolean 1)) (upd T kk x1.2) (upd K kk x2.2) D x2.1) t u tl x2.1 tx 44 hLt pw_t hLu ((pw_u hnd).trans hfu) htl (by omega) hok) (cwV 1 hts gX4_readStep_X5_pass rfl rfl rfl (by decide +kernel) ⟨Nat.le_of_ble_eq_true rfl, Nat.le_of_ble_eq_true rfl⟩) hw hA hLt pw_t rfl rfl hl.1 rfl (Nat.le_of_ble_eq_true rfl) dX4_readStep_109 ⟨Nat.zero_le _, Nat.zero_le _⟩ (fun r23 f24 H locs hp hw => ?_)
            obtain ⟨e1, e2⟩ := hp
            rw [e2, pw_st] at hw
            rw [e1]
            refine lv_if_ne (tgt := 117) hx hb dX4_readStep_112 (by decide) (fun c112 => ?_) (fun c112 => ?_)
            · have q112 : nxt tx tl x2.1 = 44 := by cases hq : decide (nxt tx tl x2.1 = 44) with | true => exact of_decide_eq_true hq | false => rw [hq] at c112; exact absurd rfl c112
              have l112 := nxt_lt q112 (by decide)
              have hw : ww G dA A s L (pw dA f pb pt pk pd t u tl (upd B kk (vp_nar .boolean 1)) (upd T kk x1.2) (upd K kk x2.2) D (x2.1 + 1)) H locs := by rw [if_pos q112] at hw; exact hw
              refine lv_aload_n hx hb dX4_readStep_117 rfl (lv_at hl 0 rfl) ?_
              refine wg (C := RX4) (T := TX4) (N := 6) hx hb hts hi4 hown hw hLl ((pw_pl hnd).trans hfl) rfl 3 (by decide) (hts (.fieldLink RX4 22 "LayerMoisture$Plan" "damps" "[I") (by decide +kernel)) (fun _ h9 => h9) (v := .ref pd) rfl dX4_readStep_118 ?_
              refine lv_iload_n hx hb dX4_readStep_121 rfl (lv_at hl 2 rfl) ?_
              refine lv_aload_n hx hb dX4_readStep_122 rfl (lv_at hl 1 rfl) ?_
              refine lv_iconst (v := 0) hx hb dX4_readStep_123 (by decide) ?_
              refine lv_bipush (v := 100) hx hb dX4_readStep_124 (by decide) ?_
              refine kV_I (C := RX5) (T := TX5) (N := 3) (As := [.int 0, .int 100]) (rest := [.int (nI kk), .ref pd]) ⟨hx, hb, hml, hown, hts⟩ (c_X5_readNumber l G dA L (pw dA f pb pt pk pd t u tl (upd B kk (vp_nar .boolean 1)) (upd T kk x1.2) (upd K kk x2.2) D (x2.1 + 1)) t u tl (x2.1 + 1) tx 0 100 hLt pw_t hLu ((pw_u hnd).trans hfu) htl (by omega) hok) (cwV 2 hts gX4_readStep_X5_readNumber rfl rfl rfl (by decide +kernel) ⟨Nat.le_of_ble_eq_true rfl, Nat.le_of_ble_eq_true rfl⟩) hw hA hLt pw_t rfl rfl hl.1 rfl (Nat.le_of_ble_eq_true rfl) dX4_readStep_126 ⟨Nat.zero_le _, Nat.zero_le _⟩ (fun r25 f26 H locs hp hw => ?_)
              obtain ⟨e1, e2⟩ := hp
              rw [e2, pw_st] at hw
              rw [e1]
              refine wst_i hx hb hw hLd (pw_d hnd) kk hkk (by decide) rfl dX4_readStep_129 (fun H locs hw => ?_)
              rw [pw_sd hnd] at hw
              refine lv_aload_n hx hb dX4_readStep_130 rfl (lv_at hl 0 rfl) ?_
              refine wg (C := RX4) (T := TX4) (N := 6) hx hb hts hi4 hown hw hLl ((pw_pl hnd).trans hfl) rfl 3 (by decide) (hts (.fieldLink RX4 22 "LayerMoisture$Plan" "damps" "[I") (by decide +kernel)) (fun _ h9 => h9) (v := .ref pd) rfl dX4_readStep_131 ?_
              refine lv_iload_n hx hb dX4_readStep_134 rfl (lv_at hl 2 rfl) ?_
              refine wld_i hx hb hw hLd (pw_d hnd) kk hkk (by decide) rfl dX4_readStep_135 ?_
              rw [show (upd D kk (numV (numP tx tl (x2.1 + 1) 0 100))) kk = numV (numP tx tl (x2.1 + 1) 0 100) from pk_us]
              refine lv_iconst (v := (-1)) hx hb dX4_readStep_136 (by decide) ?_
              refine lv_icmp_eq (tgt := 144) hx hb dX4_readStep_137 (by decide) (fun c137 => ?_) (fun c137 => ?_)
              · have q137 : numP tx tl (x2.1 + 1) 0 100 = none := (numV_ne (fun x hq => (numP_le (by omega) hq).2.2.1)).mp c137
                have hw : ww G dA A s L (pw dA f pb pt pk pd t u tl (upd B kk (vp_nar .boolean 1)) (upd T kk x1.2) (upd K kk x2.2) (upd D kk (-1)) (x2.1 + 1)) H locs := by rw [q137] at hw; exact hw
                refine lv_iconst (v := 0) hx hb dX4_readStep_144 (by decide) ?_
                exact hret _ _ _ _ _ _ hw ⟨_, _, _, _, _, rfl, fun j hj => ⟨pk_un hj, pk_un hj, pk_un hj, pk_un hj⟩, (by omega), by rw [show stepP tx tl tp = .inl (x2.1 + 1) from (by rw [stepP, if_pos s40, q66]; exact (if_pos q75).trans (by rw [q103]; exact (if_pos q112).trans (by rw [q137])))]; exact ⟨rfl, rfl⟩⟩ (by decide) dX4_readStep_145
              · obtain ⟨x3, q137⟩ : ∃ x, numP tx tl (x2.1 + 1) 0 100 = some x := by cases hq : numP tx tl (x2.1 + 1) 0 100 with | none => rw [hq] at c137; exact absurd rfl c137 | some x => exact ⟨x, rfl⟩
                have l137 := numP_le (by omega) q137
                have hw : ww G dA A s L (pw dA f pb pt pk pd t u tl (upd B kk (vp_nar .boolean 1)) (upd T kk x1.2) (upd K kk x2.2) (upd D kk x3.2) x3.1) H locs := by rw [q137] at hw; exact hw
                refine lv_iconst (v := 1) hx hb dX4_readStep_140 (by decide) ?_
                refine lv_goto (tgt := 145) hx hb dX4_readStep_141 (by decide) ?_
                exact hret _ _ _ _ _ _ hw ⟨_, _, _, _, _, rfl, fun j hj => ⟨pk_un hj, pk_un hj, pk_un hj, pk_un hj⟩, (by omega), by rw [show stepP tx tl tp = .inr (x3.1, decide (nxt tx tl tp = 104), x1.2, x2.2, x3.2) from (by rw [stepP, if_pos s40, q66]; exact (if_pos q75).trans (by rw [q103]; exact (if_pos q112).trans (by rw [q137])))]; exact ⟨rfl, rfl, pk_us.trans (by rw [decide_eq_true q11]; rfl), pk_us, pk_us, pk_us⟩⟩ (by decide) dX4_readStep_145
            · have q112 : ¬ nxt tx tl x2.1 = 44 := fun q => by rw [decide_eq_true q] at c112; exact absurd c112 (by decide)
              have hw : ww G dA A s L (pw dA f pb pt pk pd t u tl (upd B kk (vp_nar .boolean 1)) (upd T kk x1.2) (upd K kk x2.2) D x2.1) H locs := by rw [if_neg q112] at hw; exact hw
              refine lv_iconst (v := 0) hx hb dX4_readStep_115 (by decide) ?_
              exact hret _ _ _ _ _ _ hw ⟨_, _, _, _, _, rfl, fun j hj => ⟨pk_un hj, pk_un hj, pk_un hj, rfl⟩, (by omega), by rw [show stepP tx tl tp = .inl x2.1 from (by rw [stepP, if_pos s40, q66]; exact (if_pos q75).trans (by rw [q103]; exact if_neg q112))]; exact ⟨rfl, rfl⟩⟩ (by decide) dX4_readStep_116
        · have q75 : ¬ nxt tx tl x1.1 = 58 := fun q => by rw [decide_eq_true q] at c75; exact absurd c75 (by decide)
          have hw : ww G dA A s L (pw dA f pb pt pk pd t u tl (upd B kk (vp_nar .boolean 1)) (upd T kk x1.2) K D x1.1) H locs := by rw [if_neg q75] at hw; exact hw
          refine lv_iconst (v := 0) hx hb dX4_readStep_78 (by decide) ?_
          exact hret _ _ _ _ _ _ hw ⟨_, _, _, _, _, rfl, fun j hj => ⟨pk_un hj, pk_un hj, rfl, rfl⟩, (by omega), by rw [show stepP tx tl tp = .inl x1.1 from (by rw [stepP, if_pos s40, q66]; exact if_neg q75)]; exact ⟨rfl, rfl⟩⟩ (by decide) dX4_readStep_79
    · have q40 : ¬ nxt tx tl tp = 104 := fun q => by rw [decide_eq_true q] at c40; exact absurd c40 (by decide)
      have hw : ww G dA A s L (pw dA f pb pt pk pd t u tl (upd B kk (vp_nar .boolean 1)) T K D tp) H locs := by rw [if_neg q40] at hw; exact hw
      refine lv_iconst (v := 0) hx hb dX4_readStep_43 (by decide) ?_
      exact hret _ _ _ _ _ _ hw ⟨_, _, _, _, _, rfl, fun j hj => ⟨pk_un hj, rfl, rfl, rfl⟩, htp, by rw [show stepP tx tl tp = .inl tp from (by rw [stepP]; exact if_neg (by rw [if_pos q11]; exact q40))]; exact ⟨rfl, rfl⟩⟩ (by decide) dX4_readStep_44
end
section
/-! ===== all steps of the schedule ===== -/
abbrev St4 : Type := Bool × Int32 × Int32 × Int32
def stepsP (tx : Nat → Int32) (tl : Nat) : Nat → Bool → Nat → Nat ⊕ List St4
  | 0, _, p => .inl p
  | n + 1, fst, p =>
    if fst = false ∧ ¬ nxt tx tl p = 59 then .inl p
    else match stepP tx tl (if fst = true then p else p + 1) with
      | .inl q => .inl q
      | .inr x => if tl ≤ x.1 then .inr [x.2] else match stepsP tx tl n false x.1 with
        | .inl q => .inl q
        | .inr l => .inr (x.2 :: l)
/-- rows hold the steps of l from the place k on -/
def rowsAt (B T K D : Nat → Int32) (k : Nat) : List St4 → Prop
  | [] => True
  | x :: l => (B k = b2i x.1 ∧ T k = x.2.1 ∧ K k = x.2.2.1 ∧ D k = x.2.2.2) ∧ rowsAt B T K D (k + 1) l
/-- what readSteps gives, begun at the place p with k steps read -/
def stepsE (tx : Nat → Int32) (tl n k p : Nat) (B T K D : Nat → Int32) (r : Int32) (B2 T2 K2 D2 : Nat → Int32) (p2 : Nat) : Prop :=
  (∀ j, j < k → B2 j = B j ∧ T2 j = T j ∧ K2 j = K j ∧ D2 j = D j) ∧ p2 ≤ tl ∧
  match stepsP tx tl n (decide (k = 0)) p with
  | .inl q => r = -1 ∧ p2 = q
  | .inr l => r = nI (k + l.length) ∧ rowsAt B2 T2 K2 D2 k l
theorem stepP_le {tx : Nat → Int32} {tl p : Nat} (hp : p ≤ tl) : match stepP tx tl p with | .inl q => p ≤ q ∧ q ≤ tl | .inr x => p < x.1 ∧ x.1 ≤ tl := by
  unfold stepP
  by_cases h1 : nxt tx tl p = (if nxt tx tl p = 104 then 104 else 119)
  · rw [if_pos h1]
    have h0 : p < tl := by
      by_cases q : nxt tx tl p = 104
      · exact nxt_lt q (by decide)
      · rw [if_neg q] at h1; exact nxt_lt h1 (by decide)
    cases e1 : numP tx tl (p + 1) 0 999 with
    | none => exact ⟨Nat.le_succ p, h0⟩
    | some x =>
      have g1 := numP_le h0 e1
      dsimp only
      by_cases h2 : nxt tx tl x.1 = 58
      · rw [if_pos h2]
        have l2 := nxt_lt h2 (by decide)
        cases e2 : numP tx tl (x.1 + 1) 250 400 with
        | none => exact ⟨by omega, l2⟩
        | some y =>
          have g2 := numP_le l2 e2
          dsimp only
          by_cases h3 : nxt tx tl y.1 = 44
          · rw [if_pos h3]
            have l3 := nxt_lt h3 (by decide)
            cases e3 : numP tx tl (y.1 + 1) 0 100 with
            | none => exact ⟨by omega, l3⟩
            | some z =>
              have g3 := numP_le l3 e3
              exact ⟨by show p < z.1; omega, g3.2.1⟩
          · rw [if_neg h3]; exact ⟨by omega, g2.2.1⟩
      · rw [if_neg h2]; exact ⟨by omega, g1.2.1⟩
  · rw [if_neg h1]; exact ⟨Nat.le_refl p, hp⟩
end
section
set_option maxHeartbeats 4000000 in
set_option maxRecDepth 100000 in
theorem c_X4_readSteps (l : Launch) (G : va_G) (dA : Nat → ClassId) (L : List Nat) (f : Nat → va_E) (pl pb pt pk pd t u tl tp : Nat) (stp dn : Int32) (B T K D tx : Nat → Int32) (hLl : pl ∈ L) (hfl : f pl = .inr (5, [.ref pb, .ref pt, .ref pk, .ref pd, .int stp, .int dn])) (hLb : pb ∈ L) (hfb : f pb = aI (dA 3) 12 B) (hLt0 : pt ∈ L) (hft0 : f pt = aI (dA 2) 12 T) (hLk : pk ∈ L) (hfk : f pk = aI (dA 2) 12 K) (hLd : pd ∈ L) (hfd : f pd = aI (dA 2) 12 D) (hLt : t ∈ L) (hft : f t = .inr (6, [.ref u, .int (nI tl), .int (nI tp)])) (hLu : u ∈ L) (hfu : f u = aI (dA 0) 200 tx) (hnd : [pl, pb, pt, pk, pd, t, u].Nodup) (htl : tl ≤ 200) (htp : tp ≤ tl) (hok : TxOk tx tl)  : mI l yX4_readSteps wsX4_readSteps ({ frames := 5, cells := 0, slots := 0, locals := 107 }) G dA [.ref pl, .ref t] L f (fun r f2 => ∃ (B2 T2 K2 D2 : Nat → Int32) (p2 : Nat), f2 = pw dA f pb pt pk pd t u tl B2 T2 K2 D2 p2 ∧ stepsE tx tl 12 0 tp B T K D r B2 T2 K2 D2 p2) := by
  refine mI_of (cc := cX4_readSteps) (maxL := 3) (by decide) rfl (Nat.le_of_ble_eq_true rfl) ?_
  intro p e s m below meth c A ls Q hx hb hml hown hts hlocks hA hin0 hw hl hret
  have hown : s.vm.findClass RX4 = some m.cls := hown
  have hl : lv_has ls 3 [(0, .ref pl), (1, .ref t)] := hl
  have hw : ww G dA A s L (pw dA f pb pt pk pd t u tl B T K D tp) s.heap [] := by rw [pw_id hfb hft0 hfk hfd hft]; exact hw
  refine lv_iconst (v := 0) hx hb dX4_readSteps_0 (by decide) ?_
  refine lv_istore_n (lv' := [(2, .int 0), (0, .ref pl), (1, .ref t)]) hx hb dX4_readSteps_1 rfl hl (by decide) rfl (fun ls hl => ?_)
  have loop : ∀ (kf kk p1 : Nat) (B1 T1 K1 D1 : Nat → Int32), kk + kf = 12 → p1 ≤ tl → (∀ r B2 T2 K2 D2 p2, stepsE tx tl kf kk p1 B1 T1 K1 D1 r B2 T2 K2 D2 p2 → stepsE tx tl 12 0 tp B T K D r B2 T2 K2 D2 p2) → ∀ (H : Heap) (locs : List Loc), ww G dA A s L (pw dA f pb pt pk pd t u tl B1 T1 K1 D1 p1) H locs → ∀ (ls : Array Slot), lv_has ls 3 [(0, .ref pl), (1, .ref t), (2, .int (nI kk))] → W p l e ({ frames := 5, cells := 0, slots := 0, locals := 107 } : Room) s m ([.ref pl, .ref t] : List Value).toArray below meth c H locs 0 0 Q (F0 m 2 ls []) := by
    intro kf
    induction kf with
    | zero =>
      intro kk p1 B1 T1 K1 D1 hik hp1 hG H locs hw ls hl
      refine lv_iload_n hx hb dX4_readSteps_2 rfl (lv_at hl 2 rfl) ?_
      refine lv_bipush (v := 12) hx hb dX4_readSteps_3 (by decide) ?_
      refine lv_icmp_ge (tgt := 51) hx hb dX4_readSteps_5 (by decide) (fun _ => ?_) (fun c9 => absurd (show nI 12 ≤ nI kk from nI_le (by omega) (by omega)) c9)
      refine lv_iconst (v := (-1)) hx hb dX4_readSteps_51 (by decide) ?_
      exact hret _ _ _ _ _ _ hw ⟨_, _, _, _, _, rfl, hG _ _ _ _ _ _ ⟨fun j _ => ⟨rfl, rfl, rfl, rfl⟩, hp1, rfl, rfl⟩⟩ rfl dX4_readSteps_52
    | succ kf ih =>
      intro kk p1 B1 T1 K1 D1 hik hp1 hG H locs hw ls hl
      have hkk : kk < 12 := by omega
      refine lv_iload_n hx hb dX4_readSteps_2 rfl (lv_at hl 2 rfl) ?_
      refine lv_bipush (v := 12) hx hb dX4_readSteps_3 (by decide) ?_
      refine lv_icmp_ge (tgt := 51) hx hb dX4_readSteps_5 (by decide) (fun c9 => absurd c9 (show ¬ nI 12 ≤ nI kk from nI_ge (by omega) (by omega))) (fun _ => ?_)
      refine lv_iload_n hx hb dX4_readSteps_8 rfl (lv_at hl 2 rfl) ?_
      refine lv_if_le (tgt := 23) hx hb dX4_readSteps_9 (by decide) (fun c9 => ?_) (fun c9 => ?_)
      · have k0 : kk = 0 := Nat.le_zero.mp ((nI_leI (a := kk) (b := 0) (by omega) (by decide)).mp c9)
        refine lv_aload_n hx hb dX4_readSteps_23 rfl (lv_at hl 0 rfl) ?_
        refine lv_aload_n hx hb dX4_readSteps_24 rfl (lv_at hl 1 rfl) ?_
        refine lv_iload_n hx hb dX4_readSteps_25 rfl (lv_at hl 2 rfl) ?_
        refine kV_I (C := RX4) (T := TX4) (N := 6) (As := [.ref t, .int (nI kk)]) (rest := []) ⟨hx, hb, hml, hown, hts⟩ (c_X4_readStep l G dA L (pw dA f pb pt pk pd t u tl B1 T1 K1 D1 p1) pl pb pt pk pd t u tl p1 stp dn B1 T1 K1 D1 tx kk hLl ((pw_pl hnd).trans hfl) hLb (pw_b hnd) hLt0 (pw_tm hnd) hLk (pw_k hnd) hLd (pw_d hnd) hLt pw_t hLu ((pw_u hnd).trans hfu) hnd htl hp1 hok hkk) (cwV 2 hts gX4_readSteps_X4_readStep rfl rfl rfl (by decide +kernel) ⟨Nat.le_of_ble_eq_true rfl, Nat.le_of_ble_eq_true rfl⟩) hw hA hLl ((pw_pl hnd).trans hfl) rfl rfl hl.1 rfl (Nat.le_of_ble_eq_true rfl) dX4_readSteps_26 ⟨Nat.zero_le _, Nat.zero_le _⟩ (fun r1 f2 H locs hp hw => ?_)
        obtain ⟨B2, T2, K2, D2, p2, e2, hoff, hp2, hm⟩ := hp
        have hw : ww G dA A s L (pw dA f pb pt pk pd t u tl B2 T2 K2 D2 p2) H locs := by rw [e2, pw_pw hnd] at hw; exact hw
        have hE := show stepsP tx tl (kf + 1) (decide (kk = 0)) p1 = (match stepP tx tl p1 with | .inl q => .inl q | .inr x => if tl ≤ x.1 then .inr [x.2] else match stepsP tx tl kf false x.1 with | .inl q => .inl q | .inr l => .inr (x.2 :: l)) from (by rw [k0]; rfl)
        have hlo : ∀ j, j < kk → B2 j = B1 j ∧ T2 j = T1 j ∧ K2 j = K1 j ∧ D2 j = D1 j := fun j hj => hoff j (by omega)
        have hle := stepP_le (tx := tx) (tl := tl) (p := p1) hp1
        cases hs : stepP tx tl p1 with
        | inl q =>
          rw [hs] at hm hE hle
          obtain ⟨hr, hq⟩ := hm
          rw [hr]
          refine lv_if_ne (tgt := 34) hx hb dX4_readSteps_29 (by decide) (fun c9 => absurd c9 (by decide)) (fun _ => ?_)
          refine lv_iconst (v := (-1)) hx hb dX4_readSteps_32 (by decide) ?_
          exact hret _ _ _ _ _ _ hw ⟨_, _, _, _, _, rfl, hG _ _ _ _ _ _ ⟨hlo, hp2, by rw [hE]; exact ⟨rfl, hq⟩⟩⟩ rfl dX4_readSteps_33
        | inr x =>
          rw [hs] at hm hE hle
          obtain ⟨hr, hq, hB, hT, hK, hDv⟩ := hm
          rw [hr]
          refine lv_if_ne (tgt := 34) hx hb dX4_readSteps_29 (by decide) (fun _ => ?_) (fun c9 => absurd c9 (by decide))
          refine lv_aload_n hx hb dX4_readSteps_34 rfl (lv_at hl 1 rfl) ?_
          refine kV_I (C := RX5) (T := TX5) (N := 3) (As := []) (rest := []) ⟨hx, hb, hml, hown, hts⟩ (c_X5_isAtEnd l G dA L (pw dA f pb pt pk pd t u tl B2 T2 K2 D2 p2) t u tl p2 tx hLt pw_t htl (by omega)) (cwV 0 hts gX4_readSteps_X5_isAtEnd rfl rfl rfl (by decide +kernel) ⟨Nat.le_of_ble_eq_true rfl, Nat.le_of_ble_eq_true rfl⟩) hw hA hLt pw_t rfl rfl hl.1 rfl (Nat.le_of_ble_eq_true rfl) dX4_readSteps_35 ⟨Nat.zero_le _, Nat.zero_le _⟩ (fun r3 f4 H locs hp hw => ?_)
          obtain ⟨e1, e2⟩ := hp
          rw [e2] at hw
          rw [e1]
          refine lv_if_eq (tgt := 45) hx hb dX4_readSteps_38 (by decide) (fun c38 => ?_) (fun c38 => ?_)
          · have q38 : ¬ tl ≤ x.1 := fun q => by rw [← hq] at q; rw [decide_eq_true q] at c38; exact absurd c38 (by decide)
            refine lv_iinc (v := nI (kk + 1)) (lv' := [(2, .int (nI (kk + 1))), (0, .ref pl), (1, .ref t)]) hx hb dX4_readSteps_45 hl (k := 2) rfl (nI_1 kk) (by decide) rfl (fun ls hl => ?_)
            refine lv_goto (tgt := 2) hx hb dX4_readSteps_48 (by decide) ?_
            refine ih (kk + 1) p2 B2 T2 K2 D2 (by omega) hp2 (fun r B3 T3 K3 D3 p3 h3 => hG r B3 T3 K3 D3 p3 ?_) _ _ hw ls (lv_sub hl [1, 2, 0] rfl)
            obtain ⟨g1, g2, g3⟩ := h3
            rw [decide_eq_false (Nat.succ_ne_zero kk), hq] at g3
            refine ⟨fun j hj => ?_, g2, ?_⟩
            · have a1 := g1 j (by omega); have a2 := hlo j hj; exact ⟨a1.1.trans a2.1, a1.2.1.trans a2.2.1, a1.2.2.1.trans a2.2.2.1, a1.2.2.2.trans a2.2.2.2⟩
            · rw [hE]; dsimp only; rw [if_neg q38]
              cases hz : stepsP tx tl kf false x.1 with
              | inl q => rw [hz] at g3; exact g3
              | inr l2 =>
                rw [hz] at g3
                have a3 := g1 kk (Nat.lt_succ_self kk)
                exact ⟨by rw [g3.1, List.length_cons, Nat.add_comm l2.length 1, Nat.add_assoc], ⟨a3.1.trans hB, a3.2.1.trans hT, a3.2.2.1.trans hK, a3.2.2.2.trans hDv⟩, g3.2⟩
          · have q38 : tl ≤ x.1 := by rw [← hq]; cases h7 : decide (tl ≤ p2) with | true => exact of_decide_eq_true h7 | false => rw [h7] at c38; exact absurd rfl c38
            refine lv_iload_n hx hb dX4_readSteps_41 rfl (lv_at hl 2 rfl) ?_
            refine lv_iconst (v := 1) hx hb dX4_readSteps_42 (by decide) ?_
            refine lv_iadd hx hb dX4_readSteps_43 ?_
            rw [show (nI kk) + 1 = nI (kk + 1) from nI_1 kk]
            exact hret _ _ _ _ _ _ hw ⟨_, _, _, _, _, rfl, hG _ _ _ _ _ _ ⟨hlo, hp2, by rw [hE]; dsimp only; rw [if_pos q38]; exact ⟨rfl, ⟨hB, hT, hK, hDv⟩, trivial⟩⟩⟩ rfl dX4_readSteps_44
      · have k0 : ¬ kk = 0 := fun q => c9 (by rw [q]; decide)
        refine lv_aload_n hx hb dX4_readSteps_12 rfl (lv_at hl 1 rfl) ?_
        refine lv_bipush (v := 59) hx hb dX4_readSteps_13 (by decide) ?_
        refine kV_I (C := RX5) (T := TX5) (N := 3) (As := [.int 59]) (rest := []) ⟨hx, hb, hml, hown, hts⟩ (c_X5_pass l G dA L (pw dA f pb pt pk pd t u tl B1 T1 K1 D1 p1) t u tl p1 tx 59 hLt pw_t hLu ((pw_u hnd).trans hfu) htl (by omega) hok) (cwV 1 hts gX4_readSteps_X5_pass rfl rfl rfl (by decide +kernel) ⟨Nat.le_of_ble_eq_true rfl, Nat.le_of_ble_eq_true rfl⟩) hw hA hLt pw_t rfl rfl hl.1 rfl (Nat.le_of_ble_eq_true rfl) dX4_readSteps_15 ⟨Nat.zero_le _, Nat.zero_le _⟩ (fun r5 f6 H locs hp hw => ?_)
        obtain ⟨e1, e2⟩ := hp
        rw [e2, pw_st] at hw
        rw [e1]
        refine lv_if_ne (tgt := 23) hx hb dX4_readSteps_18 (by decide) (fun c18 => ?_) (fun c18 => ?_)
        · have q18 : nxt tx tl p1 = 59 := by cases hq : decide (nxt tx tl p1 = 59) with | true => exact of_decide_eq_true hq | false => rw [hq] at c18; exact absurd rfl c18
          have hw : ww G dA A s L (pw dA f pb pt pk pd t u tl B1 T1 K1 D1 (p1 + 1)) H locs := by rw [if_pos q18] at hw; exact hw
          refine lv_aload_n hx hb dX4_readSteps_23 rfl (lv_at hl 0 rfl) ?_
          refine lv_aload_n hx hb dX4_readSteps_24 rfl (lv_at hl 1 rfl) ?_
          refine lv_iload_n hx hb dX4_readSteps_25 rfl (lv_at hl 2 rfl) ?_
          refine kV_I (C := RX4) (T := TX4) (N := 6) (As := [.ref t, .int (nI kk)]) (rest := []) ⟨hx, hb, hml, hown, hts⟩ (c_X4_readStep l G dA L (pw dA f pb pt pk pd t u tl B1 T1 K1 D1 (p1 + 1)) pl pb pt pk pd t u tl (p1 + 1) stp dn B1 T1 K1 D1 tx kk hLl ((pw_pl hnd).trans hfl) hLb (pw_b hnd) hLt0 (pw_tm hnd) hLk (pw_k hnd) hLd (pw_d hnd) hLt pw_t hLu ((pw_u hnd).trans hfu) hnd htl (nxt_lt q18 (by decide)) hok hkk) (cwV 2 hts gX4_readSteps_X4_readStep rfl rfl rfl (by decide +kernel) ⟨Nat.le_of_ble_eq_true rfl, Nat.le_of_ble_eq_true rfl⟩) hw hA hLl ((pw_pl hnd).trans hfl) rfl rfl hl.1 rfl (Nat.le_of_ble_eq_true rfl) dX4_readSteps_26 ⟨Nat.zero_le _, Nat.zero_le _⟩ (fun r7 f8 H locs hp hw => ?_)
          obtain ⟨B2, T2, K2, D2, p2, e2, hoff, hp2, hm⟩ := hp
          have hw : ww G dA A s L (pw dA f pb pt pk pd t u tl B2 T2 K2 D2 p2) H locs := by rw [e2, pw_pw hnd] at hw; exact hw
          have hE := show stepsP tx tl (kf + 1) (decide (kk = 0)) p1 = (match stepP tx tl (p1 + 1) with | .inl q => .inl q | .inr x => if tl ≤ x.1 then .inr [x.2] else match stepsP tx tl kf false x.1 with | .inl q => .inl q | .inr l => .inr (x.2 :: l)) from (by rw [decide_eq_false k0]; exact if_neg (fun q => q.2 q18))
          have hlo : ∀ j, j < kk → B2 j = B1 j ∧ T2 j = T1 j ∧ K2 j = K1 j ∧ D2 j = D1 j := fun j hj => hoff j (by omega)
          have hle := stepP_le (tx := tx) (tl := tl) (p := (p1 + 1)) (nxt_lt q18 (by decide))
          cases hs : stepP tx tl (p1 + 1) with
          | inl q =>
            rw [hs] at hm hE hle
            obtain ⟨hr, hq⟩ := hm
            rw [hr]
            refine lv_if_ne (tgt := 34) hx hb dX4_readSteps_29 (by decide) (fun c9 => absurd c9 (by decide)) (fun _ => ?_)
            refine lv_iconst (v := (-1)) hx hb dX4_readSteps_32 (by decide) ?_
            exact hret _ _ _ _ _ _ hw ⟨_, _, _, _, _, rfl, hG _ _ _ _ _ _ ⟨hlo, hp2, by rw [hE]; exact ⟨rfl, hq⟩⟩⟩ rfl dX4_readSteps_33
          | inr x =>
            rw [hs] at hm hE hle
            obtain ⟨hr, hq, hB, hT, hK, hDv⟩ := hm
            rw [hr]
            refine lv_if_ne (tgt := 34) hx hb dX4_readSteps_29 (by decide) (fun _ => ?_) (fun c9 => absurd c9 (by decide))
            refine lv_aload_n hx hb dX4_readSteps_34 rfl (lv_at hl 1 rfl) ?_
            refine kV_I (C := RX5) (T := TX5) (N := 3) (As := []) (rest := []) ⟨hx, hb, hml, hown, hts⟩ (c_X5_isAtEnd l G dA L (pw dA f pb pt pk pd t u tl B2 T2 K2 D2 p2) t u tl p2 tx hLt pw_t htl (by omega)) (cwV 0 hts gX4_readSteps_X5_isAtEnd rfl rfl rfl (by decide +kernel) ⟨Nat.le_of_ble_eq_true rfl, Nat.le_of_ble_eq_true rfl⟩) hw hA hLt pw_t rfl rfl hl.1 rfl (Nat.le_of_ble_eq_true rfl) dX4_readSteps_35 ⟨Nat.zero_le _, Nat.zero_le _⟩ (fun r9 f10 H locs hp hw => ?_)
            obtain ⟨e1, e2⟩ := hp
            rw [e2] at hw
            rw [e1]
            refine lv_if_eq (tgt := 45) hx hb dX4_readSteps_38 (by decide) (fun c38 => ?_) (fun c38 => ?_)
            · have q38 : ¬ tl ≤ x.1 := fun q => by rw [← hq] at q; rw [decide_eq_true q] at c38; exact absurd c38 (by decide)
              refine lv_iinc (v := nI (kk + 1)) (lv' := [(2, .int (nI (kk + 1))), (0, .ref pl), (1, .ref t)]) hx hb dX4_readSteps_45 hl (k := 2) rfl (nI_1 kk) (by decide) rfl (fun ls hl => ?_)
              refine lv_goto (tgt := 2) hx hb dX4_readSteps_48 (by decide) ?_
              refine ih (kk + 1) p2 B2 T2 K2 D2 (by omega) hp2 (fun r B3 T3 K3 D3 p3 h3 => hG r B3 T3 K3 D3 p3 ?_) _ _ hw ls (lv_sub hl [1, 2, 0] rfl)
              obtain ⟨g1, g2, g3⟩ := h3
              rw [decide_eq_false (Nat.succ_ne_zero kk), hq] at g3
              refine ⟨fun j hj => ?_, g2, ?_⟩
              · have a1 := g1 j (by omega); have a2 := hlo j hj; exact ⟨a1.1.trans a2.1, a1.2.1.trans a2.2.1, a1.2.2.1.trans a2.2.2.1, a1.2.2.2.trans a2.2.2.2⟩
              · rw [hE]; dsimp only; rw [if_neg q38]
                cases hz : stepsP tx tl kf false x.1 with
                | inl q => rw [hz] at g3; exact g3
                | inr l2 =>
                  rw [hz] at g3
                  have a3 := g1 kk (Nat.lt_succ_self kk)
                  exact ⟨by rw [g3.1, List.length_cons, Nat.add_comm l2.length 1, Nat.add_assoc], ⟨a3.1.trans hB, a3.2.1.trans hT, a3.2.2.1.trans hK, a3.2.2.2.trans hDv⟩, g3.2⟩
            · have q38 : tl ≤ x.1 := by rw [← hq]; cases h7 : decide (tl ≤ p2) with | true => exact of_decide_eq_true h7 | false => rw [h7] at c38; exact absurd rfl c38
              refine lv_iload_n hx hb dX4_readSteps_41 rfl (lv_at hl 2 rfl) ?_
              refine lv_iconst (v := 1) hx hb dX4_readSteps_42 (by decide) ?_
              refine lv_iadd hx hb dX4_readSteps_43 ?_
              rw [show (nI kk) + 1 = nI (kk + 1) from nI_1 kk]
              exact hret _ _ _ _ _ _ hw ⟨_, _, _, _, _, rfl, hG _ _ _ _ _ _ ⟨hlo, hp2, by rw [hE]; dsimp only; rw [if_pos q38]; exact ⟨rfl, ⟨hB, hT, hK, hDv⟩, trivial⟩⟩⟩ rfl dX4_readSteps_44
        · have q18 : ¬ nxt tx tl p1 = 59 := fun q => by rw [decide_eq_true q] at c18; exact absurd c18 (by decide)
          have hw : ww G dA A s L (pw dA f pb pt pk pd t u tl B1 T1 K1 D1 p1) H locs := by rw [if_neg q18] at hw; exact hw
          refine lv_iconst (v := (-1)) hx hb dX4_readSteps_21 (by decide) ?_
          exact hret _ _ _ _ _ _ hw ⟨_, _, _, _, _, rfl, hG _ _ _ _ _ _ ⟨fun j _ => ⟨rfl, rfl, rfl, rfl⟩, hp1, by rw [show stepsP tx tl (kf + 1) (decide (kk = 0)) p1 = .inl p1 from if_pos ⟨decide_eq_false k0, q18⟩]; exact ⟨rfl, rfl⟩⟩⟩ rfl dX4_readSteps_22
  exact loop 12 0 tp B T K D rfl htp (fun r B2 T2 K2 D2 p2 h => h) _ _ hw ls (lv_sub hl [1, 2, 0] rfl)
end
section
/-! ===== doubles: magnitudes in units of the least number; what rounding gives ===== -/
abbrev Zm (a : UInt64) : Nat := FP.Core.zmag FP.Core.b64 (FP.Core.val64 a)
abbrev Zv (a : UInt64) : Int := FP.Core.zval FP.Core.b64 (FP.Core.val64 a)
/-- how many units one is -/
def E64 : Nat := 2 ^ 1074
def Top64 : Nat := FP.Core.b64.tails * 2 ^ (FP.Core.b64.exps - 2)
theorem E64_pos : 0 < E64 := Nat.two_pow_pos _
/-- a number of units that a double holds -/
def Rep (z : Nat) : Prop := ∃ (c : Nat) (q : Int), FP.Core.fits FP.Core.b64 (.fin false c q) ∧ FP.Core.zmag FP.Core.b64 (.fin false c q) = z
theorem Rep.lt {z : Nat} (h : Rep z) : z < Top64 := by
  obtain ⟨c, q, h1, h2⟩ := h
  rw [← h2]
  exact FP.Core.zmag_lt_top FP.Core.good_b64 h1
theorem rep_mul {m : Nat} (k : Nat) (hm : m < 2 ^ 53) (hk : k ≤ 2045) : Rep (m * 2 ^ k) := by
  obtain ⟨c', q', h1, h2⟩ := FP.Core.round_exact FP.Core.good_b64 false (c := m) (q := FP.Core.b64.qmin + k) (show m < 2 ^ 53 from hm) (by omega) (by
    have h := FP.Core.qmax_qmin FP.Core.b64
    have h3 : FP.Core.b64.emax = 1023 := by decide
    rw [h3] at h
    omega)
  have hf := FP.Core.round_fits FP.Core.good_b64 (.fin false m (FP.Core.b64.qmin + k))
  rw [h1] at hf
  refine ⟨c', q', hf, ?_⟩
  show FP.Core.inUnits c' q' FP.Core.b64.qmin = _
  rw [h2]
  unfold FP.Core.inUnits
  rw [show (FP.Core.b64.qmin + (k : Int) - FP.Core.b64.qmin).toNat = k by omega]
theorem rep_small {m : Nat} (hm : m < 2 ^ 53) : Rep m := by
  have h := rep_mul 0 hm (by omega)
  rwa [Nat.pow_zero, Nat.mul_one] at h
theorem rep_0 : Rep 0 := rep_small (by decide)
theorem fin_form {a : UInt64} (h : FP.Core.DFin a) : ∃ (s : Bool) (c : Nat) (q : Int), FP.Core.val64 a = .fin s c q ∧ FP.Core.fits FP.Core.b64 (.fin s c q) ∧ Zm a = c * 2 ^ (q - FP.Core.b64.qmin).toNat := by
  obtain ⟨s, c, q, h⟩ := h
  have hf := FP.Core.val64_fits a
  rw [h] at hf
  exact ⟨s, c, q, h, hf, by unfold Zm; rw [h]; rfl⟩
/-- the form of a number of units: fewer than 2^53 of some power of two, at least 2^52 of them but for the least power -/
theorem zm_form {a : UInt64} (h : FP.Core.DFin a) : ∃ (c k : Nat), Zm a = c * 2 ^ k ∧ c < 2 ^ 53 ∧ k ≤ 2045 ∧ (k = 0 ∨ 2 ^ 52 ≤ c) := by
  obtain ⟨s, c, q, h1, ⟨f1, f2, f3, f4⟩, h3⟩ := fin_form h
  have h := FP.Core.qmax_qmin FP.Core.b64
  have h5 : FP.Core.b64.emax = 1023 := by decide
  rw [h5] at h
  refine ⟨c, _, h3, f1, by omega, ?_⟩
  rcases f4 with f4 | f4
  · left; omega
  · right; exact f4
theorem rep_zm {a : UInt64} (h : FP.Core.DFin a) : Rep (Zm a) := by
  obtain ⟨c, k, h1, h2, h3, -⟩ := zm_form h
  rw [h1]
  exact rep_mul k h2 h3
theorem rep_half {z : Nat} (h : ∃ c k : Nat, z = c * 2 ^ k ∧ c < 2 ^ 53 ∧ k ≤ 2045) : Rep (z / 2) := by
  obtain ⟨c, k, rfl, h2, h3⟩ := h
  cases k with
  | zero => exact rep_small (by rw [Nat.pow_zero, Nat.mul_one]; omega)
  | succ k =>
    rw [Nat.pow_succ, ← Nat.mul_assoc, Nat.mul_div_cancel _ (by decide)]
    exact rep_mul k h2 (by omega)
/-- z is X / P, rounded -/
def Rd (X P z : Nat) : Prop :=
  (∀ v, Rep v → X ≤ v * P → z ≤ v) ∧ (∀ v, Rep v → v * P ≤ X → v ≤ z) ∧ (z < Top64 → ∀ v, Rep v → ((X : Int) - (z * P : Nat)).natAbs ≤ ((X : Int) - (v * P : Nat)).natAbs) ∧ (2 * X ≤ P → z = 0)
theorem rd_ratio {s : Bool} {A B : Nat} {e e0 : Int} (hB : 0 < B) (h0 : e0 ≤ FP.Core.b64.qmin) (h0e : e0 ≤ e) : Rd (FP.Core.inUnits A e e0) (2 ^ (FP.Core.b64.qmin - e0).toNat * B) (FP.Core.zmag FP.Core.b64 (FP.Core.roundRatio FP.Core.b64 s A B e)) := by
  refine ⟨fun v hv h => ?_, fun v hv h => ?_, fun hz v hv => ?_, fun h => ?_⟩
  · obtain ⟨c, q, h1, rfl⟩ := hv
    exact FP.Core.zmag_roundRatio_le FP.Core.good_b64 hB h1 (fun h => by cases h) h0 h0e (by rw [Nat.mul_assoc]; exact h)
  · obtain ⟨c, q, h1, rfl⟩ := hv
    exact FP.Core.zmag_roundRatio_ge FP.Core.good_b64 hB h1 h0 h0e (by rw [Nat.mul_assoc]; exact h)
  · obtain ⟨c, q, h1, rfl⟩ := hv
    rcases FP.Core.roundRatio_cases FP.Core.b64 s A B e with ⟨c2, q2, hR⟩ | hR
    · have hd := FP.Core.roundRatio_nearest FP.Core.good_b64 hB hR h1.1 h1.2.1 h0 h0e
      have hfit := FP.Core.roundRatio_fits FP.Core.good_b64 s A hB e
      rw [hR] at hfit ⊢
      unfold FP.Core.distance at hd
      rw [FP.Core.units_fin hfit h0, FP.Core.units_fin h1 h0] at hd
      simp only [← Nat.mul_assoc]
      simp only [Int.natCast_mul] at hd ⊢
      exact hd
    · rw [hR] at hz
      exact absurd hz (Nat.lt_irrefl _)
  · rw [FP.Core.roundRatio_small FP.Core.good_b64 hB h0 h0e h]
    exact Nat.zero_mul _
end
section
theorem fin_le {a : UInt64} {z : Nat} (hn : FP.Core.val64 a ≠ .nan) (h : Zm a ≤ z) (hz : z < Top64) : FP.Core.DFin a := by
  cases hv : FP.Core.val64 a with
  | nan => exact absurd hv hn
  | inf s =>
    exfalso
    unfold Zm at h
    rw [hv] at h
    have h1 : FP.Core.zmag FP.Core.b64 (.inf s) = Top64 := rfl
    omega
  | fin s c q => exact ⟨s, c, q, hv⟩
theorem rd_mul {a b : UInt64} (ha : FP.Core.DFin a) (hb : FP.Core.DFin b) : Rd (Zm a * Zm b) E64 (Zm (FP.dmul a b)) ∧ FP.Core.val64 (FP.dmul a b) ≠ .nan ∧ FP.Core.sgn (FP.Core.val64 (FP.dmul a b)) = (FP.Core.sgn (FP.Core.val64 a) != FP.Core.sgn (FP.Core.val64 b)) := by
  obtain ⟨s, c, q, ea, fa, -⟩ := fin_form ha
  obtain ⟨t, d, r, eb, fb, -⟩ := fin_form hb
  have h1 := FP.Core.val64_dmul a b
  obtain ⟨g1, g2, g3⟩ := FP.Core.product_units fa fb
  rw [ea, eb, g1] at h1
  have h2 : FP.Core.val64 (FP.Core.dmul a b) = FP.Core.roundRatio FP.Core.b64 (s != t) (c * d) 1 (q + r) := h1
  have h3 := rd_ratio (s := s != t) (A := c * d) (B := 1) (e := q + r) (e0 := 2 * FP.Core.b64.qmin) (by decide) (by rw [FP.Core.qmin_b64]; decide) g2
  have e1 : (FP.Core.b64.qmin - 2 * FP.Core.b64.qmin).toNat = 1074 := by have := FP.Core.qmin_b64; omega
  rw [g3, e1, Nat.mul_one] at h3
  refine ⟨?_, ?_, ?_⟩
  · unfold Zm
    rw [h2, ea, eb]
    exact h3
  · rw [h2]
    exact FP.Core.roundRatio_ne_nan _ _ _ _ _
  · rw [h2, ea, eb]
    exact FP.Core.sgn_roundRatio _ _ _ _ _
theorem rd_div {a b : UInt64} (ha : FP.Core.DFin a) (hb : FP.Core.DFin b) (hz : 0 < Zm b) : Rd (Zm a * E64) (Zm b) (Zm (FP.ddiv a b)) ∧ FP.Core.val64 (FP.ddiv a b) ≠ .nan ∧ FP.Core.sgn (FP.Core.val64 (FP.ddiv a b)) = (FP.Core.sgn (FP.Core.val64 a) != FP.Core.sgn (FP.Core.val64 b)) := by
  obtain ⟨s, c, q, ea, fa, za⟩ := fin_form ha
  obtain ⟨t, d, r, eb, fb, zb⟩ := fin_form hb
  have hd : 0 < d := by
    rcases Nat.eq_zero_or_pos d with h | h
    · rw [zb, h, Nat.zero_mul] at hz; exact absurd hz (by decide)
    · exact h
  have h1 := FP.Core.val64_ddiv a b
  rw [ea, eb] at h1
  have h2 : FP.Core.val64 (FP.Core.ddiv a b) = FP.Core.roundRatio FP.Core.b64 (s != t) c d (q - r) := by
    rw [h1]
    show (if d = 0 then _ else _) = _
    rw [if_neg (by omega)]
  have fq := fa.2.1
  have fr := fb.2.1
  have hq := FP.Core.qmin_b64
  have h3 := rd_ratio (s := s != t) (A := c) (B := d) (e := q - r) (e0 := 2 * FP.Core.b64.qmin - r) hd (by omega) (by omega)
  have e1 : FP.Core.inUnits c (q - r) (2 * FP.Core.b64.qmin - r) = Zm a * E64 := by
    rw [za]
    unfold FP.Core.inUnits E64
    rw [show (q - r - (2 * FP.Core.b64.qmin - r)).toNat = (q - FP.Core.b64.qmin).toNat + 1074 by omega, Nat.pow_add, Nat.mul_assoc]
  have e2 : 2 ^ (FP.Core.b64.qmin - (2 * FP.Core.b64.qmin - r)).toNat * d = Zm b := by
    rw [zb, show (FP.Core.b64.qmin - (2 * FP.Core.b64.qmin - r)).toNat = (r - FP.Core.b64.qmin).toNat by omega, Nat.mul_comm]
  rw [e1, e2] at h3
  refine ⟨?_, ?_, ?_⟩
  · show Rd _ _ (FP.Core.zmag _ (FP.Core.val64 (FP.Core.ddiv a b)))
    rw [h2]
    exact h3
  · rw [h2]
    exact FP.Core.roundRatio_ne_nan _ _ _ _ _
  · rw [h2, ea, eb]
    exact FP.Core.sgn_roundRatio _ _ _ _ _
theorem pow_e2 (u c : Nat) : u * (c * 2 ^ 55) = 2 * (c * (2 ^ 54 * u)) := by
  have h : (2 : Nat) ^ 55 = 2 * 2 ^ 54 := by decide
  rw [h]
  generalize (2 : Nat) ^ 54 = v
  ac_rfl
theorem pow_e3 (u D : Nat) : u * ((2 ^ 53 + 1) * D) = 2 * (2 ^ 52 * u * D) + u * D := by
  have h : (2 : Nat) ^ 53 = 2 * 2 ^ 52 := by decide
  rw [h]
  generalize (2 : Nat) ^ 52 = v
  rw [Nat.add_mul, Nat.mul_add, Nat.one_mul]
  congr 1
  ac_rfl
theorem pow_e5 (m k : Nat) : 4 * (m * 2 ^ k) = m * 2 ^ (k + 2) := by
  have h : (2 : Nat) ^ (k + 2) = 2 ^ k * 4 := Nat.pow_add 2 k 2
  rw [h]
  generalize (2 : Nat) ^ k = v
  ac_rfl
theorem pow_e6 (x : Nat) : 2 ^ 53 * x = 2 ^ 52 * (x * 2) := by
  have h : (2 : Nat) ^ 53 = 2 ^ 52 * 2 := by decide
  rw [h]
  generalize (2 : Nat) ^ 52 = v
  ac_rfl
theorem pow_e7 {k : Nat} (h : 0 < k) : (2 : Nat) ^ k = 2 ^ (k - 1) * 2 := by
  cases k with
  | zero => exact absurd h (by decide)
  | succ k => exact Nat.pow_succ 2 k
/-- a quarter, by the rounded quotient, is a quarter -/
theorem quarter_nat {c D F : Nat} (hc : ∃ m k : Nat, c = m * 2 ^ k ∧ m < 2 ^ 53) (hD : ∃ m k : Nat, D = m * 2 ^ k ∧ m < 2 ^ 53 ∧ (k = 0 ∨ 2 ^ 52 ≤ m)) (hF : Rd (c * E64) D F) (h : F ≤ 2 ^ 1072) : 4 * c ≤ D := by
  refine Nat.le_of_not_lt fun hlt => ?_
  have hV1 : Rep (2 ^ 1072 + 2 ^ 1020) := by
    have h9 := rep_mul (m := 2 ^ 52 + 1) 1020 (by decide) (by decide)
    rwa [show (2 ^ 52 + 1) * 2 ^ 1020 = 2 ^ 1072 + 2 ^ 1020 by decide +kernel] at h9
  have hT : F < Top64 := Nat.lt_of_le_of_lt (Nat.le_trans h (Nat.le_add_right _ _)) hV1.lt
  have hn := hF.2.2.1 hT _ hV1
  have hge := hF.2.1 _ hV1
  -- the quotient lies at most half a place above a quarter
  have hE : E64 = 2 ^ 54 * 2 ^ 1020 := by unfold E64; decide +kernel
  have h72 : (2 : Nat) ^ 1072 = 2 ^ 52 * 2 ^ 1020 := by decide +kernel
  have hpos : 0 < (2 : Nat) ^ 1020 := Nat.two_pow_pos _
  have key : c * 2 ^ 55 ≤ (2 ^ 53 + 1) * D := by
    refine Nat.le_of_not_lt fun hk => ?_
    have hFD : F * D ≤ 2 ^ 1072 * D := Nat.mul_le_mul_right D h
    have e1 : (2 ^ 1072 + 2 ^ 1020) * D = 2 ^ 1072 * D + 2 ^ 1020 * D := Nat.add_mul _ _ _
    have e2 : 2 ^ 1020 * (c * 2 ^ 55) = 2 * (c * E64) := by
      rw [hE]
      exact pow_e2 _ _
    have e3 : 2 ^ 1020 * ((2 ^ 53 + 1) * D) = 2 * (2 ^ 1072 * D) + 2 ^ 1020 * D := by
      rw [h72]
      exact pow_e3 _ _
    have hk2 := Nat.mul_lt_mul_of_pos_left hk hpos
    rw [e2, e3] at hk2
    rw [e1] at hn hge
    generalize 2 ^ 1072 * D = V0 at *
    generalize 2 ^ 1020 * D = u at *
    generalize F * D = FD at *
    generalize c * E64 = X at *
    have h1072 : (2 : Nat) ^ 1072 < 2 ^ 1072 + 2 ^ 1020 := Nat.lt_add_of_pos_right hpos
    by_cases hx : V0 + u ≤ X
    · have := hge hx
      omega
    · omega
  -- but a double above D lies a place above it
  obtain ⟨mc, kc, rfl, hmc⟩ := hc
  obtain ⟨md, kd, rfl, hmd, hor⟩ := hD
  have hpk : 0 < (2 : Nat) ^ kd := Nat.two_pow_pos _
  have hstep : (md + 1) * 2 ^ kd ≤ 4 * (mc * 2 ^ kc) := by
    by_cases hk : kd ≤ kc + 2
    · have e4 : 4 * (mc * 2 ^ kc) = mc * 2 ^ (kc + 2 - kd) * 2 ^ kd := by
        rw [Nat.mul_assoc, ← Nat.pow_add, show kc + 2 - kd + kd = kc + 2 by omega]
        exact pow_e5 _ _
      rw [e4] at hlt ⊢
      have := Nat.lt_of_mul_lt_mul_right hlt
      exact Nat.mul_le_mul_right _ this
    · exfalso
      rcases hor with h0 | h52
      · omega
      · have e5 : 4 * (mc * 2 ^ kc) = mc * 2 ^ (kc + 2) := pow_e5 _ _
        rw [e5] at hlt
        have a1 : mc * 2 ^ (kc + 2) ≤ 2 ^ 53 * 2 ^ (kd - 1) := Nat.mul_le_mul (by omega) (Nat.pow_le_pow_right (by decide) (by omega))
        have a2 : 2 ^ 53 * 2 ^ (kd - 1) = 2 ^ 52 * 2 ^ kd := by
          have e6 : (2 : Nat) ^ kd = 2 ^ (kd - 1) * 2 := pow_e7 (by omega)
          rw [e6]
          exact pow_e6 _
        have a3 : 2 ^ 52 * 2 ^ kd ≤ md * 2 ^ kd := Nat.mul_le_mul_right _ h52
        omega
  have b1 : md * 2 ^ kd < 2 ^ 53 * 2 ^ kd := Nat.mul_lt_mul_of_pos_right hmd hpk
  have b2 : (md + 1) * 2 ^ kd = md * 2 ^ kd + 2 ^ kd := by rw [Nat.add_mul, Nat.one_mul]
  generalize md * 2 ^ kd = D at *
  generalize mc * 2 ^ kc = cc at *
  generalize 2 ^ kd = u at *
  omega
/-- half at most: a flow is at most half of the slope -/
theorem half_nat {c d D P F : Nat} (h4 : 4 * c ≤ D) (hd : ∃ m k : Nat, d = m * 2 ^ k ∧ m < 2 ^ 53 ∧ k ≤ 2045) (hP : Rd (c * d) E64 P) (hF : Rd (P * E64) D F) (hPt : P < Top64) (hPr : ∃ m k : Nat, P = m * 2 ^ k ∧ m < 2 ^ 53 ∧ k ≤ 2045) (hFt : F < Top64) : 2 * F ≤ d := by
  have hE := E64_pos
  by_cases hs : 2 * (c * d) ≤ E64
  · have h0 := hP.2.2.2 hs
    subst h0
    have := hF.1 0 rep_0 (by rw [Nat.zero_mul]; exact Nat.zero_le _)
    omega
  · -- strictly less than twice
    have h2 : P * E64 < 2 * (c * d) := by
      have hn := hP.2.2.1 hPt _ (rep_half hPr)
      refine Nat.lt_of_not_le fun hle => ?_
      by_cases h1 : P ≤ 1
      · have : P * E64 ≤ 1 * E64 := Nat.mul_le_mul_right _ h1
        omega
      · have a1 : (P / 2) * E64 + (P / 2) * E64 ≤ P * E64 := by
          rw [← Nat.add_mul]
          exact Nat.mul_le_mul_right _ (by omega)
        have a2 : E64 ≤ (P / 2) * E64 := Nat.le_mul_of_pos_left _ (by omega)
        generalize (P / 2) * E64 = v at *
        generalize P * E64 = w at *
        generalize c * d = x at *
        omega
    have h3 : 4 * (c * d) ≤ D * d := by
      rw [← Nat.mul_assoc]
      exact Nat.mul_le_mul_right d h4
    have hn := hF.2.2.1 hFt _ (rep_half hd)
    have hle := hF.1 _ (rep_half hd)
    have a3 : (d / 2) * D + (d / 2) * D + (d % 2) * D = D * d := by
      rw [← Nat.add_mul, ← Nat.add_mul, Nat.mul_comm D d]
      congr 1
      omega
    have a4 : (d % 2) * D ≤ D := by
      rcases Nat.mod_two_eq_zero_or_one d with h | h <;> rw [h]
      · rw [Nat.zero_mul]; exact Nat.zero_le _
      · rw [Nat.one_mul]; exact Nat.le_refl _
    refine Nat.le_trans (Nat.mul_le_mul_left 2 (?_ : F ≤ d / 2)) (by omega)
    by_cases hx : P * E64 ≤ (d / 2) * D
    · exact hle hx
    · refine Nat.le_of_not_lt fun hlt => ?_
      have a5 : (d / 2 + 1) * D ≤ F * D := Nat.mul_le_mul_right _ hlt
      rw [Nat.add_mul, Nat.one_mul] at a5
      generalize (d / 2) * D = v at *
      generalize (d % 2) * D = r at *
      generalize F * D = w at *
      generalize P * E64 = x at *
      generalize D * d = y at *
      generalize c * d = z at *
      omega
end
section
/-! ===== bounds: Ab b x: finite, at most b units away from 0; Nn x: not below 0 and no sign ===== -/
def Ab (b : Nat) (x : UInt64) : Prop := FP.Core.DFin x ∧ Zm x ≤ b
theorem n64_of_fin {x : UInt64} (h : FP.Core.DFin x) : vf_n64 x := by
  have h1 := (FP.Core.fin_bits x).mp h
  unfold vf_n64
  rw [UInt64.le_iff_toNat_le, FP.Core.mask_toNat]
  exact Nat.le_of_lt h1
theorem Ab.n {b : Nat} {x : UInt64} (h : Ab b x) : vf_n64 x := n64_of_fin h.1
theorem Ab.mono {b d : Nat} {x : UInt64} (h : Ab b x) (hd : b ≤ d) : Ab d x := ⟨h.1, Nat.le_trans h.2 hd⟩
theorem zv_abs (x : UInt64) : (Zv x).natAbs = Zm x := by
  unfold Zv FP.Core.zval
  exact FP.Core.natAbs_signed _ _
theorem fin_ne {x : UInt64} (h : FP.Core.DFin x) : FP.Core.val64 x ≠ .nan := h.ne_nan
/-- a number of units, with its sign -/
theorem repI_form {v : Int} (h : Rep v.natAbs) : ∃ V : FP.Core.Datum, FP.Core.fits FP.Core.b64 V ∧ V ≠ .nan ∧ FP.Core.zval FP.Core.b64 V = v := by
  obtain ⟨c, q, h1, h2⟩ := h
  refine ⟨.fin (decide (v < 0)) c q, h1, (fun h => by cases h), ?_⟩
  show FP.Core.signed (decide (v < 0)) (FP.Core.zmag FP.Core.b64 (.fin false c q)) = v
  rw [h2]
  unfold FP.Core.signed
  by_cases hv : v < 0
  · rw [decide_eq_true hv, if_pos rfl]; omega
  · rw [decide_eq_false hv, if_neg (by decide)]; omega
theorem add_ne_nan {x y : UInt64} (hx : FP.Core.DFin x) (hy : FP.Core.DFin y) : FP.Core.val64 (FP.dadd x y) ≠ .nan := by
  intro h
  have h1 := (FP.Core.dIsNaN_iff _).mpr h
  rw [FP.Core.dadd_out hx.notNaN hy] at h1
  cases h1
theorem add_le {x y : UInt64} (hx : FP.Core.DFin x) (hy : FP.Core.DFin y) {v : Int} (hv : Rep v.natAbs) (h : Zv x + Zv y ≤ v) : Zv (FP.dadd x y) ≤ v := by
  obtain ⟨V, h1, h2, h3⟩ := repI_form hv
  have := FP.Core.sum_le FP.Core.good_b64 hx hy (FP.Core.val64_fits x) (FP.Core.val64_fits y) h1 h2 (by rw [h3]; exact h)
  rw [← FP.Core.val64_dadd, h3] at this
  exact this
theorem add_ge {x y : UInt64} (hx : FP.Core.DFin x) (hy : FP.Core.DFin y) {v : Int} (hv : Rep v.natAbs) (h : v ≤ Zv x + Zv y) : v ≤ Zv (FP.dadd x y) := by
  obtain ⟨V, h1, h2, h3⟩ := repI_form hv
  have := FP.Core.sum_ge FP.Core.good_b64 hx hy (FP.Core.val64_fits x) (FP.Core.val64_fits y) h1 h2 (by rw [h3]; exact h)
  rw [← FP.Core.val64_dadd, h3] at this
  exact this
theorem zv_neg (x : UInt64) : Zv (FP.dneg x) = - Zv x := by
  unfold Zv
  rw [FP.val64_dneg, FP.Core.zval_negate]
theorem fin_neg {x : UInt64} (h : FP.Core.DFin x) : FP.Core.DFin (FP.dneg x) := by
  obtain ⟨s, c, q, h⟩ := h
  exact ⟨!s, c, q, by rw [FP.val64_dneg, h]; rfl⟩
theorem sub_add_neg {x y : UInt64} (hy : FP.Core.DFin y) : FP.dsub x y = FP.dadd x (FP.dneg y) := by
  rw [FP.dneg_core hy.notNaN]
  exact FP.Core.dsub_eq x y
theorem sub_le {x y : UInt64} (hx : FP.Core.DFin x) (hy : FP.Core.DFin y) {v : Int} (hv : Rep v.natAbs) (h : Zv x - Zv y ≤ v) : Zv (FP.dsub x y) ≤ v := by
  rw [sub_add_neg hy]
  exact add_le hx (fin_neg hy) hv (by rw [zv_neg]; omega)
theorem sub_ge {x y : UInt64} (hx : FP.Core.DFin x) (hy : FP.Core.DFin y) {v : Int} (hv : Rep v.natAbs) (h : v ≤ Zv x - Zv y) : v ≤ Zv (FP.dsub x y) := by
  rw [sub_add_neg hy]
  exact add_ge hx (fin_neg hy) hv (by rw [zv_neg]; omega)
theorem Ab.add {b d z : Nat} {x y : UInt64} (hx : Ab b x) (hy : Ab d y) (hz : Rep z) (h : b + d ≤ z) : Ab z (FP.dadd x y) := by
  have a1 := zv_abs x
  have a2 := zv_abs y
  have a3 := zv_abs (FP.dadd x y)
  have b1 := hx.2
  have b2 := hy.2
  have h1 := add_le hx.1 hy.1 (v := (z : Int)) (by rw [Int.natAbs_natCast]; exact hz) (by omega)
  have h2 := add_ge hx.1 hy.1 (v := -(z : Int)) (by rw [Int.natAbs_neg, Int.natAbs_natCast]; exact hz) (by omega)
  have h3 : Zm (FP.dadd x y) ≤ z := by omega
  exact ⟨fin_le (add_ne_nan hx.1 hy.1) h3 hz.lt, h3⟩
theorem Ab.neg {b : Nat} {x : UInt64} (hx : Ab b x) : Ab b (FP.dneg x) := by
  have a1 := zv_abs x
  have a2 := zv_abs (FP.dneg x)
  rw [zv_neg] at a2
  have := hx.2
  exact ⟨fin_neg hx.1, by omega⟩
theorem Ab.sub {b d z : Nat} {x y : UInt64} (hx : Ab b x) (hy : Ab d y) (hz : Rep z) (h : b + d ≤ z) : Ab z (FP.dsub x y) := by
  rw [sub_add_neg hy.1]
  exact hx.add hy.neg hz h
theorem Ab.mul {b d z : Nat} {x y : UInt64} (hx : Ab b x) (hy : Ab d y) (hz : Rep z) (h : b * d ≤ z * E64) : Ab z (FP.dmul x y) := by
  obtain ⟨h1, h2, -⟩ := rd_mul hx.1 hy.1
  have h3 := h1.1 z hz (Nat.le_trans (Nat.mul_le_mul hx.2 hy.2) h)
  exact ⟨fin_le h2 h3 hz.lt, h3⟩
theorem Ab.div {b m z : Nat} {x y : UInt64} (hx : Ab b x) (hy : FP.Core.DFin y) (hm : m ≤ Zm y) (hm0 : 0 < m) (hz : Rep z) (h : b * E64 ≤ z * m) : Ab z (FP.ddiv x y) := by
  obtain ⟨h1, h2, -⟩ := rd_div hx.1 hy (Nat.lt_of_lt_of_le hm0 hm)
  have h3 := h1.1 z hz (Nat.le_trans (Nat.mul_le_mul_right _ hx.2) (Nat.le_trans h (Nat.mul_le_mul_left z hm)))
  exact ⟨fin_le h2 h3 hz.lt, h3⟩
/-- not below 0, and without a sign (so not -0) -/
def Nn (x : UInt64) : Prop := FP.Core.DFin x ∧ FP.Core.sgn (FP.Core.val64 x) = false
theorem Nn.zv {x : UInt64} (h : Nn x) : Zv x = (Zm x : Int) := by
  show FP.Core.signed (FP.Core.sgn (FP.Core.val64 x)) _ = _
  rw [h.2]; rfl
theorem Nn.mul {x y : UInt64} (hx : Nn x) (hy : Nn y) (h : FP.Core.DFin (FP.dmul x y)) : Nn (FP.dmul x y) := by
  obtain ⟨-, -, h3⟩ := rd_mul hx.1 hy.1
  exact ⟨h, by rw [h3, hx.2, hy.2]; rfl⟩
theorem Nn.div {x y : UInt64} (hx : Nn x) (hy : Nn y) (h0 : 0 < Zm y) (h : FP.Core.DFin (FP.ddiv x y)) : Nn (FP.ddiv x y) := by
  obtain ⟨-, -, h3⟩ := rd_div hx.1 hy.1 h0
  exact ⟨h, by rw [h3, hx.2, hy.2]; rfl⟩
end
section
/-! ===== rounding as a function; it is monotone ===== -/
def zr (X P : Nat) : Nat := FP.Core.zmag FP.Core.b64 (FP.Core.roundRatio FP.Core.b64 false X P FP.Core.b64.qmin)
theorem rd_zr (X : Nat) {P : Nat} (hP : 0 < P) : Rd X P (zr X P) := by
  have h := rd_ratio (s := false) (A := X) (B := P) (e := FP.Core.b64.qmin) (e0 := FP.Core.b64.qmin) hP (Int.le_refl _) (Int.le_refl _)
  have e1 : FP.Core.inUnits X FP.Core.b64.qmin FP.Core.b64.qmin = X := by unfold FP.Core.inUnits; rw [Int.sub_self]; exact Nat.mul_one X
  rw [e1, Int.sub_self, show (2 : Nat) ^ (0 : Int).toNat * P = P from Nat.one_mul P] at h
  exact h
theorem zmag_negate (f : FP.Core.Fmt) (d : FP.Core.Datum) : FP.Core.zmag f (FP.Core.negate d) = FP.Core.zmag f d := by cases d <;> rfl
theorem zmag_sign (s : Bool) (A B : Nat) (e : Int) : FP.Core.zmag FP.Core.b64 (FP.Core.roundRatio FP.Core.b64 s A B e) = FP.Core.zmag FP.Core.b64 (FP.Core.roundRatio FP.Core.b64 false A B e) := by
  cases s with
  | false => rfl
  | true => rw [show (true : Bool) = !false from rfl, ← FP.Core.negate_roundRatio, zmag_negate]
theorem zr_mul {a b : UInt64} (ha : FP.Core.DFin a) (hb : FP.Core.DFin b) : Zm (FP.dmul a b) = zr (Zm a * Zm b) E64 := by
  obtain ⟨s, c, q, ea, fa, za⟩ := fin_form ha
  obtain ⟨t, d, r, eb, fb, zb⟩ := fin_form hb
  have h1 := FP.Core.val64_dmul a b
  rw [ea, eb, (FP.Core.product_units fa fb).1] at h1
  have h2 : FP.Core.val64 (FP.Core.dmul a b) = FP.Core.roundRatio FP.Core.b64 (s != t) (c * d) 1 (q + r) := h1
  show FP.Core.zmag _ (FP.Core.val64 (FP.Core.dmul a b)) = _
  rw [h2, zmag_sign]
  unfold zr
  have hq := FP.Core.qmin_b64
  have fq := fa.2.1
  have fr := fb.2.1
  rw [FP.Core.roundRatio_congr (A' := Zm a * Zm b) (B' := E64) (e' := FP.Core.b64.qmin) (by decide) E64_pos ?_]
  rw [za, zb]
  unfold E64
  rw [Nat.mul_one, show c * 2 ^ (q - FP.Core.b64.qmin).toNat * (d * 2 ^ (r - FP.Core.b64.qmin).toNat) * 2 ^ (FP.Core.b64.qmin - (q + r)).toNat = c * d * (2 ^ (q - FP.Core.b64.qmin).toNat * 2 ^ (r - FP.Core.b64.qmin).toNat * 2 ^ (FP.Core.b64.qmin - (q + r)).toNat) by ac_rfl, Nat.mul_assoc, ← Nat.pow_add, ← Nat.pow_add, ← Nat.pow_add]
  congr 2
  omega
theorem ac_5 (c d x y z : Nat) : c * x * y * d * z = c * d * (x * y * z) := by ac_rfl
theorem zr_div {a b : UInt64} (ha : FP.Core.DFin a) (hb : FP.Core.DFin b) (hz : 0 < Zm b) : Zm (FP.ddiv a b) = zr (Zm a * E64) (Zm b) := by
  obtain ⟨s, c, q, ea, fa, za⟩ := fin_form ha
  obtain ⟨t, d, r, eb, fb, zb⟩ := fin_form hb
  have hd : 0 < d := by
    rcases Nat.eq_zero_or_pos d with h | h
    · rw [zb, h, Nat.zero_mul] at hz; exact absurd hz (by decide)
    · exact h
  have h1 := FP.Core.val64_ddiv a b
  rw [ea, eb] at h1
  have h2 : FP.Core.val64 (FP.Core.ddiv a b) = FP.Core.roundRatio FP.Core.b64 (s != t) c d (q - r) := by
    rw [h1]
    show (if d = 0 then _ else _) = _
    rw [if_neg (by omega)]
  show FP.Core.zmag _ (FP.Core.val64 (FP.Core.ddiv a b)) = _
  rw [h2, zmag_sign]
  unfold zr
  have hq := FP.Core.qmin_b64
  have fq := fa.2.1
  have fr := fb.2.1
  rw [FP.Core.roundRatio_congr (A' := Zm a * E64) (B' := Zm b) (e' := FP.Core.b64.qmin) hd hz ?_]
  rw [za, zb]
  unfold E64
  rw [show c * (d * 2 ^ (r - FP.Core.b64.qmin).toNat) * 2 ^ (q - r - FP.Core.b64.qmin).toNat = c * d * (2 ^ (r - FP.Core.b64.qmin).toNat * 2 ^ (q - r - FP.Core.b64.qmin).toNat) by ac_rfl, ac_5 c d (2 ^ (q - FP.Core.b64.qmin).toNat) (2 ^ 1074) (2 ^ (FP.Core.b64.qmin - (q - r)).toNat), ← Nat.pow_add, ← Nat.pow_add, ← Nat.pow_add]
  congr 2
  omega
/-- the sum's form -/
theorem add_form {a b : UInt64} (ha : FP.Core.DFin a) (hb : FP.Core.DFin b) : ∃ (sg : Bool) (n : Nat) (e : Int), FP.Core.val64 (FP.dadd a b) = FP.Core.roundRatio FP.Core.b64 sg n 1 e ∧ FP.Core.b64.qmin ≤ e ∧ FP.Core.signed sg (n * 2 ^ (e - FP.Core.b64.qmin).toNat) = Zv a + Zv b ∧ (n = 0 → sg = (FP.Core.sgn (FP.Core.val64 a) && FP.Core.sgn (FP.Core.val64 b))) := by
  obtain ⟨s, c, q, ea, fa, za⟩ := fin_form ha
  obtain ⟨t, d, r, eb, fb, zb⟩ := fin_form hb
  have h1 := FP.Core.val64_dadd a b
  rw [ea, eb] at h1
  obtain ⟨sg, n, e, g1, g2, g3⟩ := FP.Core.sum_units fa fb
  refine ⟨sg, n, e, ?_, g2, ?_, ?_⟩
  · show FP.Core.val64 (FP.Core.dadd a b) = _
    rw [h1, g1]; rfl
  · unfold Zv; rw [ea, eb]; exact g3
  · intro hn
    have g4 : FP.Core.exactSum (.fin s c q) (.fin t d r) = .fin (FP.Core.sumSign s t (FP.Core.sumUnits s c q t d r (min q r))) (FP.Core.sumUnits s c q t d r (min q r)).natAbs (min q r) := rfl
    rw [g4] at g1
    injection g1 with k1 k2 k3
    rw [← k1]
    have hv : FP.Core.sumUnits s c q t d r (min q r) = 0 := by
      have : (FP.Core.sumUnits s c q t d r (min q r)).natAbs = 0 := by rw [k2]; exact hn
      omega
    rw [hv, ea, eb]
    show (if (0 : Int) = 0 then s && t else _) = _
    rw [if_pos rfl]; rfl
theorem Nn.add {x y : UInt64} (hx : Nn x) (hy : FP.Core.DFin y) (h : 0 ≤ Zv x + Zv y) (hf : FP.Core.DFin (FP.dadd x y)) : Nn (FP.dadd x y) := by
  obtain ⟨sg, n, e, h1, h2, h3, h4⟩ := add_form hx.1 hy
  refine ⟨hf, ?_⟩
  rw [h1, FP.Core.sgn_roundRatio]
  cases hs : sg with
  | false => rfl
  | true =>
    rw [hs] at h3
    have h5 : n = 0 := by
      have h6 : FP.Core.signed true (n * 2 ^ (e - FP.Core.b64.qmin).toNat) = -((n * 2 ^ (e - FP.Core.b64.qmin).toNat : Nat) : Int) := rfl
      rw [h6] at h3
      have h7 : n * 2 ^ (e - FP.Core.b64.qmin).toNat = 0 := by omega
      rcases Nat.mul_eq_zero.mp h7 with h | h
      · exact h
      · exact absurd h (Nat.ne_of_gt (Nat.two_pow_pos _))
    have h8 := h4 h5
    rw [hs, hx.2] at h8
    exact h8
theorem zr_add {a b : UInt64} (ha : Nn a) (hb : Nn b) : Zm (FP.dadd a b) = zr (Zm a + Zm b) 1 := by
  obtain ⟨sg, n, e, h1, h2, h3, -⟩ := add_form ha.1 hb.1
  show FP.Core.zmag _ (FP.Core.val64 (FP.dadd a b)) = _
  rw [h1, zmag_sign]
  unfold zr
  rw [ha.zv, hb.zv] at h3
  have h4 : n * 2 ^ (e - FP.Core.b64.qmin).toNat = Zm a + Zm b := by
    cases sg with
    | false =>
      have h6 : FP.Core.signed false (n * 2 ^ (e - FP.Core.b64.qmin).toNat) = ((n * 2 ^ (e - FP.Core.b64.qmin).toNat : Nat) : Int) := rfl
      rw [h6] at h3; omega
    | true =>
      have h6 : FP.Core.signed true (n * 2 ^ (e - FP.Core.b64.qmin).toNat) = -((n * 2 ^ (e - FP.Core.b64.qmin).toNat : Nat) : Int) := rfl
      rw [h6] at h3; omega
  rw [FP.Core.roundRatio_congr (A' := Zm a + Zm b) (B' := 1) (e' := FP.Core.b64.qmin) (by decide) (by decide) ?_]
  rw [Nat.mul_one, Nat.mul_one, h4, show (FP.Core.b64.qmin - e).toNat = 0 by omega, Nat.pow_zero, Nat.mul_one]
theorem rep_zr {X P : Nat} (hP : 0 < P) (h : zr X P < Top64) : Rep (zr X P) := by
  unfold zr at h ⊢
  have hfit := FP.Core.roundRatio_fits FP.Core.good_b64 false X hP FP.Core.b64.qmin
  rcases FP.Core.roundRatio_cases FP.Core.b64 false X P FP.Core.b64.qmin with ⟨c, q, hR⟩ | hR
  · rw [hR] at hfit ⊢
    exact ⟨c, q, hfit, rfl⟩
  · rw [hR] at h
    exact absurd h (Nat.lt_irrefl _)
theorem zr_mono {X Y P : Nat} (hP : 0 < P) (h : X ≤ Y) (hX : zr X P < Top64) (hY : zr Y P < Top64) : zr X P ≤ zr Y P := by
  rcases Nat.eq_or_lt_of_le h with h | h
  · rw [h]; exact Nat.le_refl _
  · refine Nat.le_of_not_lt fun hlt => ?_
    have rx := rd_zr X hP
    have ry := rd_zr Y hP
    have px := rep_zr hP hX
    have py := rep_zr hP hY
    have n1 := rx.2.2.1 hX _ py
    have n2 := ry.2.2.1 hY _ px
    have a1 : ¬ X ≤ zr Y P * P := fun q => absurd (rx.1 _ py q) (by omega)
    have a2 : ¬ zr X P * P ≤ Y := fun q => absurd (ry.2.1 _ px q) (by omega)
    generalize zr X P * P = u at *
    generalize zr Y P * P = v at *
    omega
end
section
/-! ===== flows and layers ===== -/
/-- finite, not below 0, at most b units -/
def Np (b : Nat) (x : UInt64) : Prop := FP.Core.DFin x ∧ 0 ≤ Zv x ∧ Zm x ≤ b
theorem Np.zv {b : Nat} {x : UInt64} (h : Np b x) : Zv x = (Zm x : Int) := by
  have := zv_abs x
  have := h.2.1
  omega
theorem Np.ab {b : Nat} {x : UInt64} (h : Np b x) : Ab b x := ⟨h.1, h.2.2⟩
theorem Np.mono {b d : Nat} {x : UInt64} (h : Np b x) (hd : b ≤ d) : Np d x := ⟨h.1, h.2.1, Nat.le_trans h.2.2 hd⟩
theorem Nn.np {x : UInt64} {b : Nat} (h : Nn x) (hb : Zm x ≤ b) : Np b x := ⟨h.1, by rw [h.zv]; omega, hb⟩
theorem zv_sgn {x : UInt64} (h : FP.Core.sgn (FP.Core.val64 x) = false) : Zv x = (Zm x : Int) := by
  show FP.Core.signed (FP.Core.sgn (FP.Core.val64 x)) _ = _
  rw [h]; rfl
theorem zv_sgn' {x : UInt64} (h : FP.Core.sgn (FP.Core.val64 x) = true) : Zv x = -(Zm x : Int) := by
  show FP.Core.signed (FP.Core.sgn (FP.Core.val64 x)) _ = _
  rw [h]; rfl
theorem sgn_of_pos {x : UInt64} (h : 0 ≤ Zv x) (h0 : 0 < Zm x) : FP.Core.sgn (FP.Core.val64 x) = false := by
  cases hs : FP.Core.sgn (FP.Core.val64 x) with
  | false => rfl
  | true => have := zv_sgn' hs; omega
theorem rd0 {P z : Nat} (h : Rd 0 P z) : z = 0 := h.2.2.2 (by omega)
theorem Np.mul {b d z : Nat} {x y : UInt64} (hx : Np b x) (hy : Np d y) (hz : Rep z) (h : b * d ≤ z * E64) : Np z (FP.dmul x y) := by
  have h1 := hx.ab.mul hy.ab hz h
  refine ⟨h1.1, ?_, h1.2⟩
  obtain ⟨r1, -, r3⟩ := rd_mul hx.1 hy.1
  by_cases hp : 0 < Zm x ∧ 0 < Zm y
  · rw [sgn_of_pos hx.2.1 hp.1, sgn_of_pos hy.2.1 hp.2] at r3
    rw [zv_sgn r3]; omega
  · have h0 : Zm x * Zm y = 0 := by
      rcases Nat.eq_zero_or_pos (Zm x) with q | q
      · rw [q, Nat.zero_mul]
      · rw [show Zm y = 0 by omega, Nat.mul_zero]
    rw [h0] at r1
    have h2 := rd0 r1
    have h3 := zv_abs (FP.dmul x y)
    omega
theorem Np.add {b d z : Nat} {x y : UInt64} (hx : Np b x) (hy : Np d y) (hz : Rep z) (h : b + d ≤ z) : Np z (FP.dadd x y) := by
  have h1 := hx.ab.add hy.ab hz h
  exact ⟨h1.1, add_ge hx.1 hy.1 (v := 0) rep_0 (by have := hx.2.1; have := hy.2.1; omega), h1.2⟩
theorem Np.div {b m z : Nat} {x y : UInt64} (hx : Np b x) (hy : FP.Core.DFin y) (hy0 : 0 ≤ Zv y) (hm : m ≤ Zm y) (hm0 : 0 < m) (hz : Rep z) (h : b * E64 ≤ z * m) : Np z (FP.ddiv x y) := by
  have h1 := hx.ab.div hy hm hm0 hz h
  refine ⟨h1.1, ?_, h1.2⟩
  obtain ⟨r1, -, r3⟩ := rd_div hx.1 hy (by omega)
  rcases Nat.eq_zero_or_pos (Zm x) with q | q
  · rw [q, Nat.zero_mul] at r1
    have h2 := rd0 r1
    have h3 := zv_abs (FP.ddiv x y)
    omega
  · rw [sgn_of_pos hx.2.1 q, sgn_of_pos hy0 (by omega)] at r3
    rw [zv_sgn r3]; omega
theorem zr_addp {b d : Nat} {x y : UInt64} (hx : Np b x) (hy : Np d y) : Zm (FP.dadd x y) = zr (Zm x + Zm y) 1 := by
  obtain ⟨sg, n, e, h1, h2, h3, -⟩ := add_form hx.1 hy.1
  show FP.Core.zmag _ (FP.Core.val64 (FP.dadd x y)) = _
  rw [h1, zmag_sign]
  unfold zr
  rw [hx.zv, hy.zv] at h3
  have h4 : n * 2 ^ (e - FP.Core.b64.qmin).toNat = Zm x + Zm y := by
    cases sg with
    | false =>
      have h6 : FP.Core.signed false (n * 2 ^ (e - FP.Core.b64.qmin).toNat) = ((n * 2 ^ (e - FP.Core.b64.qmin).toNat : Nat) : Int) := rfl
      rw [h6] at h3; omega
    | true =>
      have h6 : FP.Core.signed true (n * 2 ^ (e - FP.Core.b64.qmin).toNat) = -((n * 2 ^ (e - FP.Core.b64.qmin).toNat : Nat) : Int) := rfl
      rw [h6] at h3; omega
  rw [FP.Core.roundRatio_congr (A' := Zm x + Zm y) (B' := 1) (e' := FP.Core.b64.qmin) (by decide) (by decide) ?_]
  rw [Nat.mul_one, Nat.mul_one, h4, show (FP.Core.b64.qmin - e).toNat = 0 by omega, Nat.pow_zero, Nat.mul_one]
/-- a flow: at most half of the slope, and of its sign -/
theorem flow_half {c d D : UInt64} (hc : FP.Core.DFin c) (hc0 : 0 ≤ Zv c) (hd : FP.Core.DFin d) (hD : FP.Core.DFin D) (hD0 : 0 ≤ Zv D) (h4 : 4 * Zm c ≤ Zm D) (hDp : 0 < Zm D) (hP : FP.Core.DFin (FP.dmul c d)) (hF : FP.Core.DFin (FP.ddiv (FP.dmul c d) D)) :
    2 * Zm (FP.ddiv (FP.dmul c d) D) ≤ Zm d ∧ (0 ≤ Zv d → 0 ≤ Zv (FP.ddiv (FP.dmul c d) D)) ∧ (Zv d ≤ 0 → Zv (FP.ddiv (FP.dmul c d) D) ≤ 0) := by
  obtain ⟨r1, -, r3⟩ := rd_mul hc hd
  obtain ⟨q1, -, q3⟩ := rd_div hP hD hDp
  obtain ⟨m1, k1, z1, z2, z3, -⟩ := zm_form hd
  obtain ⟨m2, k2, y1, y2, y3, -⟩ := zm_form hP
  have hh := half_nat h4 ⟨m1, k1, z1, z2, z3⟩ r1 q1 (rep_zm hP).lt ⟨m2, k2, y1, y2, y3⟩ (rep_zm hF).lt
  have hz := zv_abs (FP.ddiv (FP.dmul c d) D)
  have hdz := zv_abs d
  rcases Nat.eq_zero_or_pos (Zm c) with q | q
  · rw [q, Nat.zero_mul] at r1
    have a1 := rd0 r1
    rw [a1, Nat.zero_mul] at q1
    have a2 := rd0 q1
    exact ⟨hh, fun _ => by omega, fun _ => by omega⟩
  · rw [sgn_of_pos hc0 q] at r3
    rw [r3, sgn_of_pos hD0 hDp] at q3
    refine ⟨hh, fun h => ?_, fun h => ?_⟩
    · cases hs : FP.Core.sgn (FP.Core.val64 d) with
      | false => rw [hs] at q3; rw [zv_sgn q3]; omega
      | true => have := zv_sgn' hs; omega
    · cases hs : FP.Core.sgn (FP.Core.val64 d) with
      | true => rw [hs] at q3; rw [zv_sgn' q3]; omega
      | false => have := zv_sgn hs; omega
/-- the grid: units of 2^-49 -/
def gG : Nat := 2 ^ 1025
theorem gG_pos : 0 < gG := Nat.two_pow_pos _
theorem rep_grid {K : Nat} (h : K < 2 ^ 53) : Rep (K * gG) := rep_mul 1025 h (by decide)
theorem grid_up {z K : Nat} (h : z ≤ K * gG) (hK : K + 1 < 2 ^ 53) : ∃ V, Rep V ∧ z ≤ V ∧ V ≤ z + gG := by
  refine ⟨(z + (gG - 1)) / gG * gG, rep_grid ?_, ?_, ?_⟩
  · have h1 : (z + (gG - 1)) / gG ≤ (K * gG + (gG - 1)) / gG := Nat.div_le_div_right (by omega)
    have h2 : (K * gG + (gG - 1)) / gG < K + 1 := by
      rw [Nat.div_lt_iff_lt_mul gG_pos, Nat.add_mul, Nat.one_mul]
      have := gG_pos
      omega
    omega
  · have h1 := Nat.div_add_mod (z + (gG - 1)) gG
    have h2 := Nat.mod_lt (z + (gG - 1)) gG_pos
    rw [Nat.mul_comm] at h1
    generalize (z + (gG - 1)) / gG * gG = v at *
    have := gG_pos
    omega
  · have h1 := Nat.div_mul_le_self (z + (gG - 1)) gG
    have := gG_pos
    omega
/-- a flow between x and y: what it can take from either, and give to either -/
theorem flow4 {x y F d : UInt64} {K : Nat} (hd : d = FP.dsub x y) (hx : Np (K * gG) x) (hy : Np (K * gG) y) (hK : K + 1 < 2 ^ 53) (h2 : 2 * Zm F ≤ Zm d) (hp : 0 ≤ Zv d → 0 ≤ Zv F) (hn : Zv d ≤ 0 → Zv F ≤ 0) :
    2 * Zv F ≤ Zm x ∧ -(2 * Zv F) ≤ (K * gG : Nat) - Zm x + gG ∧ -(2 * Zv F) ≤ Zm y ∧ 2 * Zv F ≤ (K * gG : Nat) - Zm y + gG := by
  subst hd
  have zx := hx.zv
  have zy := hy.zv
  have bx := hx.2.2
  have by_ := hy.2.2
  have aF := zv_abs F
  have aD := zv_abs (FP.dsub x y)
  rcases Int.le_total (Zv y) (Zv x) with h | h
  · have d0 := sub_ge hx.1 hy.1 (v := 0) rep_0 (by omega)
    have d1 := sub_le hx.1 hy.1 (v := Zv x) (by rw [zv_abs]; exact rep_zm hx.1) (by omega)
    obtain ⟨V, v1, v2, v3⟩ := grid_up (z := K * gG - Zm y) (K := K) (Nat.sub_le _ _) hK
    have d2 := sub_le hx.1 hy.1 (v := (V : Int)) (by rw [Int.natAbs_natCast]; exact v1) (by omega)
    have f0 := hp d0
    refine ⟨by omega, by omega, by omega, by omega⟩
  · have d0 := sub_le hx.1 hy.1 (v := 0) rep_0 (by omega)
    have d1 := sub_ge hx.1 hy.1 (v := -Zv y) (by rw [Int.natAbs_neg, zv_abs]; exact rep_zm hy.1) (by omega)
    obtain ⟨V, v1, v2, v3⟩ := grid_up (z := K * gG - Zm x) (K := K) (Nat.sub_le _ _) hK
    have d2 := sub_ge hx.1 hy.1 (v := -(V : Int)) (by rw [Int.natAbs_neg, Int.natAbs_natCast]; exact v1) (by omega)
    have f0 := hn d0
    refine ⟨by omega, by omega, by omega, by omega⟩
/-- a layer's new wetness -/
theorem layer_step {W gn lo : UInt64} {o1 o2 : Int} {K : Nat} (hW : Nn W) (hWM : Zm W ≤ K * gG) (hK : K + 4 < 2 ^ 53) (hgn : FP.Core.DFin gn) (hlo : FP.Core.DFin lo) (e1 : Zv gn = -o1) (e2 : Zv lo = o2)
    (h1 : 2 * o1 ≤ Zm W) (h1' : -(2 * o1) ≤ (K * gG : Nat) - Zm W + gG) (h2 : 2 * o2 ≤ Zm W) (h2' : -(2 * o2) ≤ (K * gG : Nat) - Zm W + gG) :
    FP.Core.DFin (FP.dadd W gn) ∧ Nn (FP.dsub (FP.dadd W gn) lo) ∧ Zm (FP.dsub (FP.dadd W gn) lo) ≤ (K + 2) * gG := by
  have zw := hW.zv
  have g0 := gG_pos
  have eK2 : (K + 2) * gG = K * gG + 2 * gG := Nat.add_mul _ _ _
  have eK3 : (K + 3) * gG = K * gG + 3 * gG := Nat.add_mul _ _ _
  have hs0 : 0 ≤ Zv W + Zv gn := by omega
  -- the first sum
  obtain ⟨V, v1, v2, v3⟩ := grid_up (z := (Zv W + Zv gn).toNat) (K := K + 3) (by omega) (by omega)
  have a1 := add_le hW.1 hgn (v := (V : Int)) (by rw [Int.natAbs_natCast]; exact v1) (by omega)
  have a0 := add_ge hW.1 hgn (v := 0) rep_0 hs0
  have aa := zv_abs (FP.dadd W gn)
  have fa : FP.Core.DFin (FP.dadd W gn) := fin_le (add_ne_nan hW.1 hgn) (z := V) (by omega) v1.lt
  have na := hW.add hgn hs0 fa
  -- the loss
  have a2 := add_ge hW.1 hgn (v := Zv lo) (by rw [zv_abs]; exact rep_zm hlo) (by omega)
  have b0 := sub_ge fa hlo (v := 0) rep_0 (by omega)
  have b1 := sub_le fa hlo (v := (((K + 2) * gG : Nat) : Int)) (by rw [Int.natAbs_natCast]; exact rep_grid (by omega)) (by omega)
  have bb := zv_abs (FP.dsub (FP.dadd W gn) lo)
  have hle : Zm (FP.dsub (FP.dadd W gn) lo) ≤ (K + 2) * gG := by omega
  have hnn : FP.Core.val64 (FP.dsub (FP.dadd W gn) lo) ≠ .nan := by rw [sub_add_neg hlo]; exact add_ne_nan fa (fin_neg hlo)
  have fb := fin_le hnn hle (rep_grid (K := K + 2) (by omega)).lt
  refine ⟨fa, ?_, hle⟩
  rw [sub_add_neg hlo] at fb ⊢
  exact na.add (fin_neg hlo) (by rw [zv_neg]; omega) fb
end
section
/-! ===== each reckoning: no NaN, and where its answer lies (units: one is 2^1074) ===== -/
theorem rep_pow (k : Nat) (h : k ≤ 2045) : Rep (2 ^ k) := by
  have h1 := rep_mul (m := 1) k (by decide) h
  rwa [Nat.one_mul] at h1
theorem fin_c {x : UInt64} (h : x.toNat % 2 ^ 63 < 9218868437227405312) : FP.Core.DFin x := (FP.Core.fin_bits x).mpr h
theorem k_0 : Nn FP.dconst0 ∧ Zm FP.dconst0 = 0 := ⟨⟨fin_c (by decide), by decide +kernel⟩, by decide +kernel⟩
theorem k_1 : Nn FP.dconst1 ∧ Zm FP.dconst1 = 2 ^ 1074 := ⟨⟨fin_c (by decide), by decide +kernel⟩, by decide +kernel⟩
theorem k_q : Nn 4598175219545276416 ∧ Zm 4598175219545276416 = 2 ^ 1072 := ⟨⟨fin_c (by decide), by decide +kernel⟩, by decide +kernel⟩
theorem k_375 : Nn 4600427019358961664 ∧ Zm 4600427019358961664 = 3 * 2 ^ 1071 := ⟨⟨fin_c (by decide), by decide +kernel⟩, by decide +kernel⟩
theorem k_273 : Nn 4643510282981736448 ∧ Zm 4643510282981736448 = 273 * 2 ^ 1074 := ⟨⟨fin_c (by decide), by decide +kernel⟩, by decide +kernel⟩
theorem k_256 : Nn 4643211215818981376 ∧ Zm 4643211215818981376 = 2 ^ 1082 := ⟨⟨fin_c (by decide), by decide +kernel⟩, by decide +kernel⟩
theorem k_3125 : Nn 4599301119452119040 ∧ Zm 4599301119452119040 = 5 * 2 ^ 1070 := ⟨⟨fin_c (by decide), by decide +kernel⟩, by decide +kernel⟩
theorem k_65536 : Nn 4679240012837945344 ∧ Zm 4679240012837945344 = 2 ^ 1090 := ⟨⟨fin_c (by decide), by decide +kernel⟩, by decide +kernel⟩
theorem k_8 : Nn 4620693217682128896 ∧ Zm 4620693217682128896 = 2 ^ 1077 := ⟨⟨fin_c (by decide), by decide +kernel⟩, by decide +kernel⟩
theorem k_64 : Nn 4634204016564240384 ∧ Zm 4634204016564240384 = 2 ^ 1080 := ⟨⟨fin_c (by decide), by decide +kernel⟩, by decide +kernel⟩
theorem k_2 : Nn 4611686018427387904 ∧ Zm 4611686018427387904 = 2 ^ 1075 := ⟨⟨fin_c (by decide), by decide +kernel⟩, by decide +kernel⟩
theorem k_100 : Nn 4636737291354636288 ∧ Zm 4636737291354636288 = 100 * 2 ^ 1074 := ⟨⟨fin_c (by decide), by decide +kernel⟩, by decide +kernel⟩
theorem kp {x : UInt64} {b : Nat} (h : Nn x ∧ Zm x = b) : Np b x := h.1.np (Nat.le_of_eq h.2)
def GA (kel damp spd vent : UInt64) : Prop := (Np (400 * 2 ^ 1074) kel ∧ 250 * 2 ^ 1074 ≤ Zm kel) ∧ Np (2 ^ 1074) damp ∧ Np (2 ^ 1078) spd ∧ Np (2 ^ 1074) vent
def GD (dep : UInt64) : Prop := Np (400 * 2 ^ 1074) dep ∧ 2 ^ 1070 ≤ Zm dep
/-- balance -/
theorem b_bal {kel damp spd vent : UInt64} (h : GA kel damp spd vent) : vf_n64 (FP.dmul 4600427019358961664 damp) ∧ vf_n64 (FP.dsub kel 4643510282981736448) ∧ vf_n64 (FP.ddiv (FP.dsub kel 4643510282981736448) 4643211215818981376) ∧ vf_n64 (FP.dsub FP.dconst1 (FP.ddiv (FP.dsub kel 4643510282981736448) 4643211215818981376)) ∧ vf_n64 (sp_bal kel damp) ∧ Np (2 ^ 1074) (sp_bal kel damp) := by
  obtain ⟨⟨hk, hk2⟩, hd, -, -⟩ := h
  have a1 : Np (2 ^ 1074) (FP.dmul 4600427019358961664 damp) := (kp k_375).mul hd (rep_pow 1074 (by decide)) (by unfold E64; exact Nat.mul_le_mul_right _ (by decide +kernel))
  have z273 : Zv 4643510282981736448 = ((273 * 2 ^ 1074 : Nat) : Int) := by rw [k_273.1.zv, k_273.2]
  have zk := hk.zv
  have bk := hk.2.2
  have c1 := sub_le hk.1 k_273.1.1 (v := ((2 ^ 1081 : Nat) : Int)) (by rw [Int.natAbs_natCast]; exact rep_pow 1081 (by decide)) (by
    rw [z273, zk]
    have : 400 * 2 ^ 1074 ≤ 273 * 2 ^ 1074 + 2 ^ 1081 := by decide +kernel
    omega)
  have c2 := sub_ge hk.1 k_273.1.1 (v := -((2 ^ 1081 : Nat) : Int)) (by rw [Int.natAbs_neg, Int.natAbs_natCast]; exact rep_pow 1081 (by decide)) (by
    rw [z273, zk]
    have : 273 * 2 ^ 1074 ≤ 250 * 2 ^ 1074 + 2 ^ 1081 := by decide +kernel
    omega)
  have f2 : FP.Core.val64 (FP.dsub kel 4643510282981736448) ≠ .nan := by rw [sub_add_neg k_273.1.1]; exact add_ne_nan hk.1 (fin_neg k_273.1.1)
  have m2 : Zm (FP.dsub kel 4643510282981736448) ≤ 2 ^ 1081 := by
    have := zv_abs (FP.dsub kel 4643510282981736448)
    omega
  have a2 : Ab (2 ^ 1081) (FP.dsub kel 4643510282981736448) := ⟨fin_le f2 m2 (rep_pow 1081 (by decide)).lt, m2⟩
  have a3 : Ab (2 ^ 1074) (FP.ddiv (FP.dsub kel 4643510282981736448) 4643211215818981376) := a2.div k_256.1.1 (m := 2 ^ 1082) (Nat.le_of_eq k_256.2.symm) (Nat.two_pow_pos _) (rep_pow 1074 (by decide)) (by unfold E64; decide +kernel)
  have a4 : Ab (2 ^ 1075) (FP.dsub FP.dconst1 (FP.ddiv (FP.dsub kel 4643510282981736448) 4643211215818981376)) := (kp k_1).ab.sub a3 (rep_pow 1075 (by decide)) (by decide +kernel)
  have a5 : Np (2 ^ 1075) (FP.dsub FP.dconst1 (FP.ddiv (FP.dsub kel 4643510282981736448) 4643211215818981376)) := ⟨a4.1, sub_ge k_1.1.1 a3.1 (v := 0) rep_0 (by
    have e1 : Zv FP.dconst1 = ((2 ^ 1074 : Nat) : Int) := by rw [k_1.1.zv, k_1.2]
    have e2 := zv_abs (FP.ddiv (FP.dsub kel 4643510282981736448) 4643211215818981376)
    have e3 := a3.2
    omega), a4.2⟩
  have a1' : Np (3 * 2 ^ 1071) (FP.dmul 4600427019358961664 damp) := (kp k_375).mul hd (rep_mul 1071 (by decide) (by decide)) (by unfold E64; exact Nat.le_refl _)
  have a6 : Np (2 ^ 1074) (sp_bal kel damp) := a1'.mul a5 (rep_pow 1074 (by decide)) (by unfold E64; decide +kernel)
  exact ⟨a1.ab.n, a2.n, a3.n, a4.n, a6.ab.n, a6⟩
/-- DAMP takes up WATER -/
theorem b_take {damp vent water : UInt64} (hd : Np (2 ^ 1074) damp) (hv : Np (2 ^ 1074) vent) (hw : Ab (2 ^ 1092) water) : vf_n64 (FP.ddiv water 4679240012837945344) ∧ vf_n64 (FP.dsub FP.dconst1 vent) ∧ vf_n64 (FP.dmul (FP.ddiv water 4679240012837945344) (FP.dsub FP.dconst1 vent)) ∧ vf_n64 (sp_damp1 damp vent water) ∧ Np (2 ^ 1074) (sp_damp damp vent water) := by
  have a1 : Ab (2 ^ 1076) (FP.ddiv water 4679240012837945344) := hw.div k_65536.1.1 (m := 2 ^ 1090) (Nat.le_of_eq k_65536.2.symm) (Nat.two_pow_pos _) (rep_pow 1076 (by decide)) (by unfold E64; decide +kernel)
  have a2 : Ab (2 ^ 1075) (FP.dsub FP.dconst1 vent) := (kp k_1).ab.sub hv.ab (rep_pow 1075 (by decide)) (by decide +kernel)
  have a3 : Ab (2 ^ 1077) (FP.dmul (FP.ddiv water 4679240012837945344) (FP.dsub FP.dconst1 vent)) := a1.mul a2 (rep_pow 1077 (by decide)) (by unfold E64; decide +kernel)
  have a4 : Ab (2 ^ 1078) (sp_damp1 damp vent water) := hd.ab.add a3 (rep_pow 1078 (by decide)) (by decide +kernel)
  have z0 : Zv FP.dconst0 = 0 := by rw [k_0.1.zv, k_0.2]; rfl
  have z1 : Zv FP.dconst1 = ((2 ^ 1074 : Nat) : Int) := by rw [k_1.1.zv, k_1.2]
  have a5 : FP.Core.DFin (sp_lo (sp_damp1 damp vent water)) ∧ 0 ≤ Zv (sp_lo (sp_damp1 damp vent water)) := by
    unfold sp_lo
    split
    · exact ⟨k_0.1.1, by rw [z0]; exact Int.le_refl 0⟩
    · rename_i h
      refine ⟨a4.1, Int.not_lt.mp fun q => h ?_⟩
      exact FP.Core.dcmp_lt.mpr ⟨fin_ne a4.1, fin_ne k_0.1.1, by show Zv _ < Zv FP.dconst0; rw [z0]; exact q⟩
  refine ⟨a1.n, a2.n, a3.n, a4.n, ?_⟩
  show Np _ (sp_hi (sp_lo (sp_damp1 damp vent water)))
  unfold sp_hi
  split
  · exact kp k_1
  · rename_i h
    refine ⟨a5.1, a5.2, Nat.le_of_not_lt fun q => h ?_⟩
    refine FP.Core.dcmp_gt.mpr ⟨fin_ne a5.1, fin_ne k_1.1.1, ?_⟩
    show Zv FP.dconst1 < Zv _
    have := zv_abs (sp_lo (sp_damp1 damp vent water))
    have := a5.2
    rw [z1]; omega
theorem ab_sub {x y : UInt64} {z : Nat} (hx : FP.Core.DFin x) (hy : FP.Core.DFin y) (hz : Rep z) (h : (Zv x - Zv y).natAbs ≤ z) : Ab z (FP.dsub x y) := by
  have c1 := sub_le hx hy (v := (z : Int)) (by rw [Int.natAbs_natCast]; exact hz) (by omega)
  have c2 := sub_ge hx hy (v := -(z : Int)) (by rw [Int.natAbs_neg, Int.natAbs_natCast]; exact hz) (by omega)
  have f2 : FP.Core.val64 (FP.dsub x y) ≠ .nan := by rw [sub_add_neg hy]; exact add_ne_nan hx (fin_neg hy)
  have m2 : Zm (FP.dsub x y) ≤ z := by
    have := zv_abs (FP.dsub x y)
    omega
  exact ⟨fin_le f2 m2 hz.lt, m2⟩
theorem d2l_small {x : UInt64} (hx : FP.Core.DFin x) (hq : Zm x / FP.Core.one64 ≤ 524288) : (FP.Core.d2l x).toInt = FP.Core.signed (FP.Core.sgn (FP.Core.val64 x)) (Zm x / FP.Core.one64) := by
  rw [FP.Core.d2l_val (fin_ne hx)]
  have hq2 : FP.Core.zmag FP.Core.b64 (FP.Core.val64 x) / FP.Core.one64 ≤ 524288 := hq
  show max _ (min _ (FP.Core.signed (FP.Core.sgn (FP.Core.val64 x)) (FP.Core.zmag FP.Core.b64 (FP.Core.val64 x) / FP.Core.one64))) = FP.Core.signed (FP.Core.sgn (FP.Core.val64 x)) (FP.Core.zmag FP.Core.b64 (FP.Core.val64 x) / FP.Core.one64)
  generalize FP.Core.zmag FP.Core.b64 (FP.Core.val64 x) / FP.Core.one64 = k at hq2
  generalize FP.Core.sgn (FP.Core.val64 x) = sg
  cases sg <;> simp only [FP.Core.signed, if_true, Bool.false_eq_true, if_false] <;> omega
theorem rest_key {x : UInt64} (hx : FP.Core.DFin x) (hq : Zm x / FP.Core.one64 ≤ 524288) : (Zv x - Zv (FP.Core.l2d (FP.Core.d2l x))).natAbs ≤ FP.Core.one64 := by
  have hs := d2l_small hx hq
  have hsm : (FP.Core.d2l x).toInt.natAbs ≤ 2 ^ 53 := by
    rw [hs, FP.Core.natAbs_signed]
    exact Nat.le_trans hq (by decide)
  have hz : Zv (FP.Core.l2d (FP.Core.d2l x)) = _ := FP.Core.DInt_zval (FP.Core.l2d_int hsm)
  rw [hz, hs, ← FP.Core.signed_mul]
  have hdm := Nat.div_add_mod (Zm x) FP.Core.one64
  have hml := Nat.mod_lt (Zm x) FP.Core.one64_pos
  rw [Nat.mul_comm] at hdm
  generalize Zm x / FP.Core.one64 * FP.Core.one64 = k at *
  cases hsg : FP.Core.sgn (FP.Core.val64 x) with
  | false =>
    rw [zv_sgn hsg]
    simp only [FP.Core.signed, Bool.false_eq_true, if_false]
    omega
  | true =>
    rw [zv_sgn' hsg]
    simp only [FP.Core.signed, if_true]
    omega
theorem one_le {x : UInt64} (h : Zm x ≤ 2 ^ 1093) : Zm x / FP.Core.one64 ≤ 524288 := by
  refine Nat.le_trans (Nat.div_le_div_right h) ?_
  unfold FP.Core.one64
  decide +kernel
/-- REST and GONE -/
theorem b_led {rest water : UInt64} (hr : Ab (2 ^ 1074) rest) (hw : Ab (2 ^ 1092) water) : vf_n64 (FP.dadd rest water) ∧ vf_n64 (FP.dsub (FP.dadd rest water) (FP.l2d (FP.d2l (FP.dadd rest water)))) ∧ Ab (2 ^ 1074) (FP.dsub (FP.dadd rest water) (FP.l2d (FP.d2l (FP.dadd rest water)))) := by
  have a1 : Ab (2 ^ 1093) (FP.dadd rest water) := hr.add hw (rep_pow 1093 (by decide)) (by decide +kernel)
  have a2 := ab_sub a1.1 (FP.Core.l2d_fin (FP.Core.d2l (FP.dadd rest water))) (rep_pow 1074 (by decide)) (rest_key a1.1 (one_le a1.2))
  exact ⟨a1.n, a2.n, a2⟩
end
section
/-! ===== a board's reckonings ===== -/
theorem i2d_n {n : Nat} (h : n < 2 ^ 31) : Zv (FP.i2d (nI n)) = ((n * 2 ^ 1074 : Nat) : Int) ∧ FP.Core.DFin (FP.i2d (nI n)) ∧ Zm (FP.i2d (nI n)) = n * 2 ^ 1074 := by
  have h1 := FP.Core.DInt_zval (FP.Core.i2d_int (nI n))
  rw [nI_toInt h] at h1
  have h2 : Zv (FP.i2d (nI n)) = ((n * 2 ^ 1074 : Nat) : Int) := by
    show FP.Core.zval FP.Core.b64 (FP.Core.val64 (FP.Core.i2d (nI n))) = _
    rw [h1, Int.natCast_mul]; rfl
  have h3 := zv_abs (FP.i2d (nI n))
  rw [h2, Int.natAbs_natCast] at h3
  exact ⟨h2, FP.Core.i2d_fin _, h3.symm⟩
theorem b_sum {g : Nat → UInt64} {n : Nat} (hg : ∀ i, i < n → Ab (2 ^ 1076) (g i)) (hn : n ≤ 16) : ∀ i, i ≤ n → Ab (i * 2 ^ 1076) (sumD g i)
  | 0, _ => by rw [Nat.zero_mul]; exact (kp k_0).ab
  | i + 1, hi => (b_sum hg hn i (by omega)).add (hg i hi) (rep_mul 1076 (by omega) (by decide)) (by rw [Nat.add_mul, Nat.one_mul]; exact Nat.le_refl _)
theorem b_mean {g : Nat → UInt64} {n : Nat} (hg : ∀ i, i < n → Ab (2 ^ 1076) (g i)) (hn : n ≤ 16) (h1 : 1 ≤ n) : (∀ i, i < n → vf_n64 (FP.dadd (sumD g i) (g i))) ∧ vf_n64 (FP.ddiv (sumD g n) (FP.i2d (nI n))) ∧ Ab (2 ^ 1080) (sp_mean g n) := by
  obtain ⟨-, f2, f3⟩ := i2d_n (n := n) (by omega)
  have h2 : Ab (2 ^ 1080) (sumD g n) := (b_sum hg hn n (Nat.le_refl n)).mono (Nat.le_trans (Nat.mul_le_mul_right _ hn) (by decide +kernel))
  have h3 : Ab (2 ^ 1080) (sp_mean g n) := h2.div f2 (m := 2 ^ 1074) (by rw [f3]; exact Nat.le_mul_of_pos_left _ h1) (Nat.two_pow_pos _) (rep_pow 1080 (by decide)) (by unfold E64; exact Nat.le_refl _)
  exact ⟨fun i hi => (b_sum hg hn (i + 1) hi).n, h3.n, h3⟩
/-- the cut wetness, and what a layer shrinks -/
theorem b_cut {x : UInt64} (h : Np (2 ^ 1076) x) : Np (5 * 2 ^ 1070) (sp_cut x) ∧ Zv (sp_cut x) ≤ ((5 * 2 ^ 1070 : Nat) : Int) := by
  have z := k_3125.1.zv
  rw [k_3125.2] at z
  unfold sp_cut
  split
  · rename_i q
    have q1 : Zv x < Zv 4599301119452119040 := (FP.Core.dcmp_lt.mp q).2.2
    have q2 := zv_abs x
    have q3 := h.2.1
    exact ⟨⟨h.1, h.2.1, by omega⟩, by omega⟩
  · exact ⟨kp k_3125, by rw [z]; exact Int.le_refl _⟩
theorem b_shr {x : UInt64} (h : Np (2 ^ 1076) x) : vf_n64 (FP.dsub 4599301119452119040 (sp_cut x)) ∧ vf_n64 (FP.dmul 4598175219545276416 (FP.dsub 4599301119452119040 (sp_cut x))) ∧ Np (2 ^ 1074) (sp_shr x) ∧ Nn (sp_shr x) := by
  obtain ⟨c1, c2⟩ := b_cut h
  have z := k_3125.1.zv
  rw [k_3125.2] at z
  have a1 : Ab (2 ^ 1074) (FP.dsub 4599301119452119040 (sp_cut x)) := (kp k_3125).ab.sub c1.ab (rep_pow 1074 (by decide)) (by decide +kernel)
  have a2 : Nn (FP.dsub 4599301119452119040 (sp_cut x)) := by
    have f := a1.1
    rw [sub_add_neg c1.1] at f ⊢
    exact k_3125.1.add (fin_neg c1.1) (by rw [zv_neg, z]; omega) f
  have a3 : Np (2 ^ 1074) (FP.dmul 4598175219545276416 (FP.dsub 4599301119452119040 (sp_cut x))) := (kp k_q).mul (a2.np a1.2) (rep_pow 1074 (by decide)) (by unfold E64; decide +kernel)
  exact ⟨a1.n, a3.ab.n, a3, k_q.1.mul a2 a3.1⟩
theorem b_load {g : Nat → UInt64} {n : Nat} (hg : ∀ i, i < n → Np (2 ^ 1076) (g i)) (hn : n ≤ 16) (h1 : 1 ≤ n) : (∀ i, i < n → vf_n64 (FP.dsub 4599301119452119040 (sp_cut (g i)))) ∧ (∀ i, i < n → vf_n64 (FP.dmul 4598175219545276416 (FP.dsub 4599301119452119040 (sp_cut (g i))))) ∧ (∀ i, i < n → vf_n64 (FP.dadd (sumD (fun j => sp_shr (g j)) i) (sp_shr (g i)))) ∧ vf_n64 (FP.ddiv (sumD (fun j => sp_shr (g j)) n) (FP.i2d (nI n))) ∧ (∀ i, i < n → vf_n64 (FP.dsub (sp_shr (g i)) (sp_mshr g n))) := by
  have hs : ∀ i, i < n → Ab (2 ^ 1076) ((fun j => sp_shr (g j)) i) := fun i hi => ((b_shr (hg i hi)).2.2.1.ab.mono (by decide +kernel))
  obtain ⟨m1, m2, m3⟩ := b_mean hs hn h1
  refine ⟨fun i hi => (b_shr (hg i hi)).1, fun i hi => (b_shr (hg i hi)).2.1, m1, m2, fun i hi => ?_⟩
  exact ((hs i hi).sub m3 (rep_pow 1081 (by decide)) (by decide +kernel)).n
/-- the greatest wetness -/
theorem b_max {g : Nat → UInt64} {b : Nat} : ∀ (n : Nat), (∀ i, i < n → Nn (g i) ∧ Zm (g i) ≤ b) → Nn (maxD g n) ∧ Zm (maxD g n) ≤ b ∧ ∀ i, i < n → Zm (g i) ≤ Zm (maxD g n)
  | 0, _ => ⟨k_0.1, by rw [show maxD g 0 = FP.dconst0 from rfl, k_0.2]; exact Nat.zero_le _, fun i h => absurd h (Nat.not_lt_zero i)⟩
  | n + 1, h => by
    obtain ⟨h1, h2, h3⟩ := b_max n (fun i hi => h i (by omega))
    obtain ⟨h4, h5⟩ := h n (Nat.lt_succ_self n)
    show Nn (if FP.dcmp (g n) (maxD g n) = some .gt then g n else maxD g n) ∧ Zm (if FP.dcmp (g n) (maxD g n) = some .gt then g n else maxD g n) ≤ b ∧ ∀ i, i < n + 1 → Zm (g i) ≤ Zm (if FP.dcmp (g n) (maxD g n) = some .gt then g n else maxD g n)
    by_cases q : FP.dcmp (g n) (maxD g n) = some .gt
    · rw [if_pos q]
      have q1 : Zv (maxD g n) < Zv (g n) := (FP.Core.dcmp_gt.mp q).2.2
      rw [h1.zv, h4.zv] at q1
      refine ⟨h4, h5, fun i hi => ?_⟩
      rcases Nat.lt_succ_iff_lt_or_eq.mp hi with hi | rfl
      · exact Nat.le_trans (h3 i hi) (by omega)
      · exact Nat.le_refl _
    · rw [if_neg q]
      refine ⟨h1, h2, fun i hi => ?_⟩
      rcases Nat.lt_succ_iff_lt_or_eq.mp hi with hi | rfl
      · exact h3 i hi
      · refine Nat.le_of_not_lt fun hlt => q ?_
        refine FP.Core.dcmp_gt.mpr ⟨fin_ne h4.1, fin_ne h1.1, ?_⟩
        show Zv (maxD g i) < Zv (g i)
        rw [h1.zv, h4.zv]; omega
/-- A + B * w -/
theorem b_speed {a b w : UInt64} (ha : Np (2 ^ 1077) a) (hb : Np (2 ^ 1077) b) (hw : Np (2 ^ 1076) w) : vf_n64 (FP.dmul b w) ∧ vf_n64 (sp_speed a b w) ∧ Np (2 ^ 1079) (FP.dmul b w) ∧ Np (2 ^ 1080) (sp_speed a b w) := by
  have a1 : Np (2 ^ 1079) (FP.dmul b w) := hb.mul hw (rep_pow 1079 (by decide)) (by unfold E64; decide +kernel)
  have a2 : Np (2 ^ 1080) (sp_speed a b w) := ha.add a1 (rep_pow 1080 (by decide)) (by decide +kernel)
  exact ⟨a1.ab.n, a2.ab.n, a1, a2⟩
theorem speed_mono {a b v w : UInt64} (ha : Np (2 ^ 1077) a) (hb : Np (2 ^ 1077) b) (hv : Np (2 ^ 1076) v) (hw : Np (2 ^ 1076) w) (h : Zm v ≤ Zm w) : Zm (sp_speed a b v) ≤ Zm (sp_speed a b w) := by
  obtain ⟨-, -, v1, v2⟩ := b_speed ha hb hv
  obtain ⟨-, -, w1, w2⟩ := b_speed ha hb hw
  have m1 : Zm (FP.dmul b v) ≤ Zm (FP.dmul b w) := by
    have t1 := (rep_zm v1.1).lt
    have t2 := (rep_zm w1.1).lt
    rw [zr_mul hb.1 hv.1] at t1 ⊢
    rw [zr_mul hb.1 hw.1] at t2 ⊢
    exact zr_mono E64_pos (Nat.mul_le_mul_left _ h) t1 t2
  have t1 := (rep_zm v2.1).lt
  have t2 := (rep_zm w2.1).lt
  unfold sp_speed at t1 t2 ⊢
  rw [zr_addp ha v1] at t1 ⊢
  rw [zr_addp ha w1] at t2 ⊢
  exact zr_mono (by decide) (Nat.add_le_add_left m1 _) t1 t2
/-- the two divisors -/
theorem b_dep {dep : UInt64} (h : GD dep) : (vf_n64 (FP.dmul 4620693217682128896 dep) ∧ Np (2 ^ 1086) (FP.dmul 4620693217682128896 dep) ∧ 2 ^ 1073 ≤ Zm (FP.dmul 4620693217682128896 dep)) ∧ vf_n64 (FP.dmul dep dep) ∧ Np (2 ^ 1092) (FP.dmul dep dep) ∧ 2 ^ 1066 ≤ Zm (FP.dmul dep dep) := by
  obtain ⟨h1, h2⟩ := h
  have a1 : Np (2 ^ 1086) (FP.dmul 4620693217682128896 dep) := (kp k_8).mul h1 (rep_pow 1086 (by decide)) (by unfold E64; decide +kernel)
  have a2 : Np (2 ^ 1092) (FP.dmul dep dep) := h1.mul h1 (rep_pow 1092 (by decide)) (by unfold E64; decide +kernel)
  have r1 := (rd_mul k_8.1.1 h1.1).1.2.1 (2 ^ 1073) (rep_pow 1073 (by decide)) (by
    rw [k_8.2]
    exact Nat.le_trans (by unfold E64; decide +kernel) (Nat.mul_le_mul_left (2 ^ 1077) h2))
  have r2 := (rd_mul h1.1 h1.1).1.2.1 (2 ^ 1066) (rep_pow 1066 (by decide)) (Nat.le_trans (by unfold E64; decide +kernel) (Nat.mul_le_mul h2 h2))
  exact ⟨⟨a1.ab.n, a1, r1⟩, a2.ab.n, a2, r2⟩
/-- what 'refuses' asks -/
theorem b_ref {spd dep a b w : UInt64} (hs : Np (2 ^ 1078) spd) (hd : GD dep) (ha : Np (2 ^ 1077) a) (hb : Np (2 ^ 1077) b) (hw : Np (2 ^ 1076) w) : vf_n64 (FP.ddiv spd (FP.dmul 4620693217682128896 dep)) ∧ vf_n64 (FP.ddiv (sp_speed a b w) (FP.dmul dep dep)) ∧ Np (2 ^ 1090) (FP.ddiv spd (FP.dmul 4620693217682128896 dep)) ∧ Np (2 ^ 1090) (FP.ddiv (sp_speed a b w) (FP.dmul dep dep)) := by
  obtain ⟨⟨-, d1, d2⟩, -, d3, d4⟩ := b_dep hd
  have a1 : Np (2 ^ 1090) (FP.ddiv spd (FP.dmul 4620693217682128896 dep)) := hs.div d1.1 d1.2.1 d2 (Nat.two_pow_pos _) (rep_pow 1090 (by decide)) (by unfold E64; decide +kernel)
  have a2 : Np (2 ^ 1090) (FP.ddiv (sp_speed a b w) (FP.dmul dep dep)) := (b_speed ha hb hw).2.2.2.div d3.1 d3.2.1 d4 (Nat.two_pow_pos _) (rep_pow 1090 (by decide)) (by unfold E64; decide +kernel)
  exact ⟨a1.ab.n, a2.ab.n, a1, a2⟩
theorem not_gt_q {x : UInt64} {b : Nat} (hx : Np b x) (h : ¬ FP.dcmp x 4598175219545276416 = some .gt) : Zm x ≤ 2 ^ 1072 := by
  refine Nat.le_of_not_lt fun q => h ?_
  refine FP.Core.dcmp_gt.mpr ⟨fin_ne hx.1, fin_ne k_q.1.1, ?_⟩
  show Zv 4598175219545276416 < Zv x
  rw [k_q.1.zv, k_q.2, hx.zv]; omega
theorem quarter {c D : UInt64} {b : Nat} (hc : FP.Core.DFin c) (hD : FP.Core.DFin D) (hD0 : 0 < Zm D) (hx : Np b (FP.ddiv c D)) (h : ¬ FP.dcmp (FP.ddiv c D) 4598175219545276416 = some .gt) : 4 * Zm c ≤ Zm D := by
  obtain ⟨m1, k1, z1, z2, -, -⟩ := zm_form hc
  obtain ⟨m2, k2, y1, y2, -, y4⟩ := zm_form hD
  exact quarter_nat ⟨m1, k1, z1, z2⟩ ⟨m2, k2, y1, y2, y4⟩ (rd_div hc hD hD0).1 (not_gt_q hx h)
end
section
/-! ===== an hour of one board ===== -/
theorem rep_dbl {a : UInt64} (h : FP.Core.DFin a) (hb : Zm a ≤ 2 ^ 1076) : Rep (2 * Zm a) := by
  obtain ⟨m, k, h1, h2, h3, h4⟩ := zm_form h
  have hk : k + 1 ≤ 2045 := by
    rcases h4 with h4 | h4
    · omega
    · have h5 : 2 ^ 52 * 2 ^ k ≤ 2 ^ 1076 := by
        refine Nat.le_trans (Nat.mul_le_mul_right _ h4) ?_
        rw [← h1]; exact hb
      rw [← Nat.pow_add] at h5
      have := (Nat.pow_le_pow_iff_right (by decide : 1 < 2)).mp h5
      omega
  have h6 := rep_mul (m := m) (k + 1) h2 hk
  rw [Nat.pow_succ, ← Nat.mul_assoc, ← h1, Nat.mul_comm] at h6
  exact h6
def GW (K : Nat) (g : Nat → UInt64) (n : Nat) : Prop := ∀ i, i < n → Nn (g i) ∧ Zm (g i) ≤ K * gG
def KOk (K : Nat) : Prop := 2 ^ 49 ≤ K ∧ K ≤ 2 ^ 51
theorem KOk.le {K : Nat} (h : KOk K) : K * gG ≤ 2 ^ 1076 := Nat.le_trans (Nat.mul_le_mul_right _ h.2) (by unfold gG; decide +kernel)
theorem KOk.ge {K : Nat} (h : KOk K) : 2 ^ 1074 ≤ K * gG := Nat.le_trans (by unfold gG; decide +kernel) (Nat.mul_le_mul_right gG h.1)
/-- a face's flow -/
theorem b_face {dep x spd bal : UInt64} {K : Nat} (hK : KOk K) (hd : GD dep) (hx : Np (K * gG) x) (hs : Np (2 ^ 1078) spd) (hb : Np (2 ^ 1074) bal) (hr : ¬ FP.dcmp (FP.ddiv spd (FP.dmul 4620693217682128896 dep)) 4598175219545276416 = some .gt) :
    vf_n64 (FP.dsub x bal) ∧ vf_n64 (FP.dmul spd (FP.dsub x bal)) ∧ vf_n64 (sp_face dep x spd bal) ∧ Ab (2 ^ 1076) (sp_face dep x spd bal) ∧ 2 * Zv (sp_face dep x spd bal) ≤ Zm x ∧ -(2 * Zv (sp_face dep x spd bal)) ≤ (K * gG : Nat) - Zm x + gG := by
  obtain ⟨⟨-, d1, d2⟩, -⟩ := b_dep hd
  have hx' := hx.mono hK.le
  have a1 : Ab (2 ^ 1077) (FP.dsub x bal) := hx'.ab.sub hb.ab (rep_pow 1077 (by decide)) (by decide +kernel)
  have a2 : Ab (2 ^ 1081) (FP.dmul spd (FP.dsub x bal)) := hs.ab.mul a1 (rep_pow 1081 (by decide)) (by unfold E64; decide +kernel)
  have a3 : Ab (2 ^ 1082) (sp_face dep x spd bal) := a2.div d1.1 d2 (Nat.two_pow_pos _) (rep_pow 1082 (by decide)) (by unfold E64; decide +kernel)
  have h0 : 0 < Zm (FP.dmul 4620693217682128896 dep) := Nat.lt_of_lt_of_le (Nat.two_pow_pos _) d2
  have hq := quarter hs.1 d1.1 h0 (hs.div d1.1 d1.2.1 d2 (Nat.two_pow_pos _) (rep_pow 1090 (by decide)) (by unfold E64; decide +kernel)) hr
  obtain ⟨f1, f2, f3⟩ := flow_half hs.1 hs.2.1 a1.1 d1.1 d1.2.1 hq h0 a2.1 a3.1
  obtain ⟨g1, g2, -, -⟩ := flow4 (F := sp_face dep x spd bal) rfl hx (hb.mono hK.ge) (by have := hK.2; omega) f1 f2 f3
  have a4 : Zm (sp_face dep x spd bal) ≤ 2 ^ 1076 := by
    have h5 := Nat.le_trans f1 a1.2
    have h6 : (2 : Nat) ^ 1077 = 2 * 2 ^ 1076 := by decide +kernel
    rw [h6] at h5
    exact Nat.le_of_mul_le_mul_left h5 (by decide)
  exact ⟨a1.n, a2.n, a3.n, ⟨a3.1, a4⟩, g1, g2⟩
/-- a slope's flow -/
theorem b_slope {dep x y ka kb wm : UInt64} {K : Nat} (hK : KOk K) (hd : GD dep) (hx : Np (K * gG) x) (hy : Np (K * gG) y) (ha : Np (2 ^ 1077) ka) (hb : Np (2 ^ 1077) kb) (hw : Np (2 ^ 1076) wm) (hxw : Zm x ≤ Zm wm) (hyw : Zm y ≤ Zm wm) (hr : ¬ FP.dcmp (FP.ddiv (sp_speed ka kb wm) (FP.dmul dep dep)) 4598175219545276416 = some .gt) :
    vf_n64 (FP.dadd x y) ∧ vf_n64 (FP.ddiv (FP.dadd x y) 4611686018427387904) ∧ vf_n64 (FP.dmul kb (FP.ddiv (FP.dadd x y) 4611686018427387904)) ∧ vf_n64 (FP.dadd ka (FP.dmul kb (FP.ddiv (FP.dadd x y) 4611686018427387904))) ∧ vf_n64 (FP.dsub x y) ∧ vf_n64 (FP.dmul (sp_speed ka kb (FP.ddiv (FP.dadd x y) 4611686018427387904)) (FP.dsub x y)) ∧ vf_n64 (sp_slope ka kb dep x y) ∧
    FP.Core.DFin (sp_slope ka kb dep x y) ∧ 2 * Zv (sp_slope ka kb dep x y) ≤ Zm x ∧ -(2 * Zv (sp_slope ka kb dep x y)) ≤ (K * gG : Nat) - Zm x + gG ∧ -(2 * Zv (sp_slope ka kb dep x y)) ≤ Zm y ∧ 2 * Zv (sp_slope ka kb dep x y) ≤ (K * gG : Nat) - Zm y + gG := by
  obtain ⟨-, -, d3, d4⟩ := b_dep hd
  have hx' := hx.mono hK.le
  have hy' := hy.mono hK.le
  have a1 : Np (2 ^ 1077) (FP.dadd x y) := hx'.add hy' (rep_pow 1077 (by decide)) (by decide +kernel)
  have a2 : Np (2 ^ 1076) (FP.ddiv (FP.dadd x y) 4611686018427387904) := a1.div k_2.1.1 (by rw [k_2.1.zv]; omega) (m := 2 ^ 1075) (Nat.le_of_eq k_2.2.symm) (Nat.two_pow_pos _) (rep_pow 1076 (by decide)) (by unfold E64; decide +kernel)
  obtain ⟨s1, s2, -, s4⟩ := b_speed ha hb a2
  have a5 : Ab (2 ^ 1077) (FP.dsub x y) := hx'.ab.sub hy'.ab (rep_pow 1077 (by decide)) (by decide +kernel)
  have a6 : Ab (2 ^ 1083) (FP.dmul (sp_speed ka kb (FP.ddiv (FP.dadd x y) 4611686018427387904)) (FP.dsub x y)) := s4.ab.mul a5 (rep_pow 1083 (by decide)) (by unfold E64; decide +kernel)
  have a7 : Ab (2 ^ 1091) (sp_slope ka kb dep x y) := a6.div d3.1 d4 (Nat.two_pow_pos _) (rep_pow 1091 (by decide)) (by unfold E64; decide +kernel)
  have h0 : 0 < Zm (FP.dmul dep dep) := Nat.lt_of_lt_of_le (Nat.two_pow_pos _) d4
  -- the mean of two is at most the greatest
  have m1 : Zm (FP.dadd x y) ≤ 2 * Zm wm := by
    have q1 := add_le hx.1 hy.1 (v := ((2 * Zm wm : Nat) : Int)) (by rw [Int.natAbs_natCast]; exact rep_dbl hw.1 hw.2.2) (by rw [hx.zv, hy.zv]; omega)
    have q2 := zv_abs (FP.dadd x y)
    have q3 := a1.2.1
    omega
  have m2 : Zm (FP.ddiv (FP.dadd x y) 4611686018427387904) ≤ Zm wm := by
    have h0' : 0 < Zm 4611686018427387904 := by rw [k_2.2]; exact Nat.two_pow_pos _
    refine (rd_div a1.1 k_2.1.1 h0').1.1 (Zm wm) (rep_zm hw.1) ?_
    rw [k_2.2]
    refine Nat.le_trans (Nat.mul_le_mul_right _ m1) ?_
    have e1 : (2 : Nat) ^ 1075 = 2 * E64 := by unfold E64; decide +kernel
    rw [e1, Nat.mul_comm 2 (Zm wm), Nat.mul_assoc]
    exact Nat.le_refl _
  have cm := speed_mono ha hb a2 hw m2
  have hq := quarter (b_speed ha hb hw).2.2.2.1 d3.1 h0 ((b_speed ha hb hw).2.2.2.div d3.1 d3.2.1 d4 (Nat.two_pow_pos _) (rep_pow 1090 (by decide)) (by unfold E64; decide +kernel)) hr
  obtain ⟨f1, f2, f3⟩ := flow_half s4.1 s4.2.1 a5.1 d3.1 d3.2.1 (by omega) h0 a6.1 a7.1
  obtain ⟨g1, g2, g3, g4⟩ := flow4 (F := sp_slope ka kb dep x y) rfl hx hy (by have := hK.2; omega) f1 f2 f3
  exact ⟨a1.ab.n, a2.ab.n, s1, s2, a5.n, a6.n, a7.n, a7.1, g1, g2, g3, g4⟩
/-- the layers' new wetnesses -/
theorem b_new {dep spd bal ka kb : UInt64} {K nl : Nat} {g : Nat → UInt64} (hK : KOk K) (hd : GD dep) (hs : Np (2 ^ 1078) spd) (hb : Np (2 ^ 1074) bal) (ha : Np (2 ^ 1077) ka) (hkb : Np (2 ^ 1077) kb) (hg : GW K g (nl + 1))
    (hr1 : ¬ FP.dcmp (FP.ddiv spd (FP.dmul 4620693217682128896 dep)) 4598175219545276416 = some .gt) (hr2 : ¬ FP.dcmp (FP.ddiv (sp_speed ka kb (maxD g (nl + 1))) (FP.dmul dep dep)) 4598175219545276416 = some .gt) (i : Nat) (hi : i < nl + 1) :
    FP.Core.DFin (FP.dadd (g i) (sp_gain ka kb dep (sp_face dep (g 0) spd bal) (sp_face dep (g nl) spd bal) g nl i)) ∧ Nn (sp_new ka kb dep (sp_face dep (g 0) spd bal) (sp_face dep (g nl) spd bal) g nl i) ∧ Zm (sp_new ka kb dep (sp_face dep (g 0) spd bal) (sp_face dep (g nl) spd bal) g nl i) ≤ (K + 2) * gG := by
  have hn : ∀ j, j < nl + 1 → Np (K * gG) (g j) := fun j hj => (hg j hj).1.np (hg j hj).2
  obtain ⟨m1, m2, m3⟩ := b_max (b := K * gG) (nl + 1) hg
  have hm : Np (2 ^ 1076) (maxD g (nl + 1)) := m1.np (Nat.le_trans m2 hK.le)
  have face := fun j (hj : j < nl + 1) => b_face hK hd (hn j hj) hs hb hr1
  have slope := fun j (hj : j < nl) => b_slope hK hd (hn j (by omega)) (hn (j + 1) (by omega)) ha hkb hm (m3 j (by omega)) (m3 (j + 1) (by omega)) hr2
  have hK4 : K + 4 < 2 ^ 53 := by have := hK.2; omega
  -- what goes behind the layer
  have hlo : ∃ o2 : Int, FP.Core.DFin (sp_fl ka kb dep (sp_face dep (g nl) spd bal) g nl i) ∧ Zv (sp_fl ka kb dep (sp_face dep (g nl) spd bal) g nl i) = o2 ∧ 2 * o2 ≤ Zm (g i) ∧ -(2 * o2) ≤ (K * gG : Nat) - Zm (g i) + gG := by
    unfold sp_fl
    by_cases q : i < nl
    · rw [if_pos q]
      have h := slope i q
      exact ⟨_, h.2.2.2.2.2.2.2.1, rfl, h.2.2.2.2.2.2.2.2.1, h.2.2.2.2.2.2.2.2.2.1⟩
    · rw [if_neg q]
      have e : i = nl := by omega
      subst e
      have h := face i (by omega)
      exact ⟨_, h.2.2.2.1.1, rfl, h.2.2.2.2.1, h.2.2.2.2.2⟩
  have hga : ∃ o1 : Int, FP.Core.DFin (sp_gain ka kb dep (sp_face dep (g 0) spd bal) (sp_face dep (g nl) spd bal) g nl i) ∧ Zv (sp_gain ka kb dep (sp_face dep (g 0) spd bal) (sp_face dep (g nl) spd bal) g nl i) = -o1 ∧ 2 * o1 ≤ Zm (g i) ∧ -(2 * o1) ≤ (K * gG : Nat) - Zm (g i) + gG := by
    cases i with
    | zero =>
      have h := face 0 (by omega)
      exact ⟨_, fin_neg h.2.2.2.1.1, zv_neg _, h.2.2.2.2.1, h.2.2.2.2.2⟩
    | succ j =>
      have q : j < nl := by omega
      have h := slope j q
      show ∃ o1 : Int, FP.Core.DFin (sp_fl ka kb dep (sp_face dep (g nl) spd bal) g nl j) ∧ Zv (sp_fl ka kb dep (sp_face dep (g nl) spd bal) g nl j) = -o1 ∧ 2 * o1 ≤ Zm (g (j + 1)) ∧ -(2 * o1) ≤ (K * gG : Nat) - Zm (g (j + 1)) + gG
      unfold sp_fl
      rw [if_pos q]
      refine ⟨-Zv (sp_slope ka kb dep (g j) (g (j + 1))), h.2.2.2.2.2.2.2.1, (Int.neg_neg _).symm, ?_, ?_⟩
      · have := h.2.2.2.2.2.2.2.2.2.2.1
        omega
      · have := h.2.2.2.2.2.2.2.2.2.2.2
        omega
  obtain ⟨o2, l1, l2, l3, l4⟩ := hlo
  obtain ⟨o1, k1, k2, k3, k4⟩ := hga
  exact layer_step (hg i hi).1 (hg i hi).2 hK4 k1 l1 k2 l2 k3 k4 l3 l4
/-- WATER -/
theorem b_water {G H dep : UInt64} (hG : Ab (2 ^ 1076) G) (hH : Ab (2 ^ 1076) H) (hd : GD dep) : vf_n64 (FP.dadd G H) ∧ vf_n64 (FP.dmul (FP.dadd G H) dep) ∧ vf_n64 (FP.dmul (FP.dmul (FP.dadd G H) dep) 4634204016564240384) ∧ Ab (2 ^ 1092) (FP.dmul (FP.dmul (FP.dadd G H) dep) 4634204016564240384) := by
  have a1 : Ab (2 ^ 1077) (FP.dadd G H) := hG.add hH (rep_pow 1077 (by decide)) (by decide +kernel)
  have a2 : Ab (2 ^ 1086) (FP.dmul (FP.dadd G H) dep) := a1.mul (hd.1.ab.mono (show 400 * 2 ^ 1074 ≤ 2 ^ 1083 by decide +kernel)) (rep_pow 1086 (by decide)) (by unfold E64; decide +kernel)
  have a3 : Ab (2 ^ 1092) (FP.dmul (FP.dmul (FP.dadd G H) dep) 4634204016564240384) := a2.mul (kp k_64).ab (rep_pow 1092 (by decide)) (by unfold E64; decide +kernel)
  exact ⟨a1.n, a2.n, a3.n, a3⟩
end
section
/-! ===== exceptions: what a throw needs of the state, and contracts of methods that throw ===== -/
def nAIO : String := "java/lang/ArrayIndexOutOfBoundsException"
def nIAE : String := "java/lang/IllegalArgumentException"
def nISE : String := "java/lang/IllegalStateException"
/-- an exception's name, its class link, its constructor's link, the names between it and Throwable -/
def exOf (k : Nat) : String × Nat × Nat × List String := match k with
  | 0 => (nAIO, 177, 181, ["java/lang/IndexOutOfBoundsException", "java/lang/RuntimeException", "java/lang/Exception"])
  | 1 => (nIAE, 131, 135, ["java/lang/RuntimeException", "java/lang/Exception"])
  | _ => (nISE, 205, 209, ["java/lang/RuntimeException", "java/lang/Exception"])
def exW (k : Nat) : List Cond := .classLink RX6 (exOf k).2.1 (exOf k).1 :: .initialized (exOf k).1 :: vx_atS RX6 (exOf k).2.2.1 (exOf k).1 (exOf k).2.2.2
def strs : List (Nat × String) := [(133, "hours are not 0 .. 100"), (148, "the load is not 0 or more"), (179, "what is not 0 .. 4"), (193, "what is not 0 .. 2"), (195, "no such board"), (197, "no such kind"), (199, "no such layer"), (207, "that board is not there"), (210, "a number is beyond its bounds")]
def castW : Cond → Bool
  | .castable _ _ => true
  | .declares _ => true
  | _ => false
def exOk (w : Cond) : Bool := goodWord w || castW w
theorem exW_ok : ∀ k, k < 3 → (exW k).all exOk = true := by
  intro k hk
  match k, hk with
  | 0, _ => decide +kernel
  | 1, _ => decide +kernel
  | 2, _ => decide +kernel
theorem exW_ot : ∀ k, k < 3 → (exW k).all vx_ot = true := by
  intro k hk
  match k, hk with
  | 0, _ => decide +kernel
  | 1, _ => decide +kernel
  | 2, _ => decide +kernel
def wEnv (A : Nat → Prop) (sa : Nat → Nat) (U : State) (H : Heap) : Prop :=
  vx_Zq Bundle.tN "UNASSIGNED_STACK" Bundle.steD A U H ∧ vx_Zq Bundle.tN "SUPPRESSED_SENTINEL" Bundle.listD A U H ∧ (∀ q ∈ strs, vk_R RX6 q.1 q.2 (sa q.1) U) ∧ ∀ k, k < 3 → ∀ w ∈ exW k, w.before #[] U = true
theorem exOk_moved {w : Cond} {s U : State} (hW : s.WarmedH U.vm) (h : exOk w = true) (hw : w.before #[] s = true) : w.before #[] U = true := by
  unfold exOk at h
  rw [Bool.or_eq_true] at h
  rcases h with h | h
  · exact word_at hW (good_of_word h) hw
  · cases w <;> first | (exact va_Nw.warmC hW hw) | (exact va_Nw.warmD hW hw) | (exact absurd h (by simp [castW]))
theorem wEnv.moved {A B : Nat → Prop} {sa : Nat → Nat} {s U : State} {H0 H : Heap} (hW : s.WarmedH U.vm) (hq : ∀ a : Nat, a < H0.size → ¬ A a → H[a]? = H0[a]?) (hAB : ∀ q, B q → A q) (h : wEnv A sa s H0) : wEnv B sa U H :=
  ⟨vx_Zq.narrow (vx_Zq.moved hW.alike (h.1.kept hq)) hAB, vx_Zq.narrow (vx_Zq.moved hW.alike (h.2.1.kept hq)) hAB, fun q hm => vk_R.warm hW (h.2.2.1 q hm), fun k hk w hw => exOk_moved hW (List.all_eq_true.mp (exW_ok k hk) w hw) (h.2.2.2 k hk w hw)⟩
theorem wEnv.blind {A : Nat → Prop} {sa : Nat → Nat} {U : State} {g : JFrame} {mk : MethodId} {a : Array Value} (h : wEnv A sa U U.heap) : wEnv A sa (U.calling g mk a) (U.calling g mk a).heap :=
  ⟨vx_Zq.moved (u := U) (U := U.calling g mk a) (Vm.Alike.refl U.vm) h.1, vx_Zq.moved (u := U) (U := U.calling g mk a) (Vm.Alike.refl U.vm) h.2.1, fun q hm => vk_R.same rfl (h.2.2.1 q hm), fun k hk w hw => vx_ot_at (s := U) (U := U.calling g mk a) (State.WarmedH.refl U) rfl (List.all_eq_true.mp (exW_ot k hk) w hw) (h.2.2.2 k hk w hw)⟩
def wPreX (G : va_G) (dA : Nat → ClassId) (L : List Nat) (f : Nat → va_E) (sa : Nat → Nat) (sz : Nat) : State → Prop := fun U => wPre G dA L f sz U ∧ wEnv (va_A (va_pl L f) sz) sa U U.heap
theorem wPreX.blind {G : va_G} {dA : Nat → ClassId} {L : List Nat} {f : Nat → va_E} {sa : Nat → Nat} {sz : Nat} {av : List Value} : FrameBlind (va_Pc av (wPreX G dA L f sa sz)) := fun a U g mk q => by
  obtain ⟨q0, ⟨q1, qP, qK, qD⟩, qE⟩ := q
  exact ⟨q0, ⟨q1, qP, va_K.moved (u := U) (U := U.calling g mk a) (Vm.Alike.refl U.vm) qK, qD⟩, wEnv.blind qE⟩
def wXC (G : va_G) (dA : Nat → ClassId) (L : List Nat) (f : Nat → va_E) (A : Nat → Prop) (k : Nat) : String → State → State → Prop :=
  vx_X (fun _ : Unit => True) (fun E _ t => E = (exOf k).1 ∧ va_P G vwCl (va_pl L f) t.heap ∧ va_K G vwCl (tyL dA) t ∧ va_D A (va_pl L f)) A
/-- a method that throws the exception k, the world as it was -/
def mX (l : Launch) (y : MethodName) (ws : List Cond) (rm : Room) (G : va_G) (dA : Nat → ClassId) (av : List Value) (L : List Nat) (f : Nat → va_E) (sa : Nat → Nat) (k : Nat) : Prop :=
  ∀ sz : Nat, vx_Met l y ws rm (va_Pc av (wPreX G dA L f sa sz)) (fun _ _ _ _ => False) (wXC G dA L f (va_A (va_pl L f) sz) k) 1 6 (va_A (va_pl L f) sz)
abbrev xMQ (G : va_G) (dA : Nat → ClassId) (L : List Nat) (f : Nat → va_E) (A : Nat → Prop) (k : Nat) (below : List Frame) (args : Array Value) (s : State) : State → Prop :=
  vx_MQ below (fun _ _ _ _ => False) (wXC G dA L f A k) args s 1 6 A
theorem mX_of {l : Launch} {y : MethodName} {ws ws' : List Cond} {rm : Room} {G : va_G} {dA : Nat → ClassId} {av : List Value} {L : List Nat} {f : Nat → va_E} {sa : Nat → Nat} {k : Nat} {cc : ByteArray} {maxL : Nat} {ret : Option FieldType} (hy : plainName y.cls = true) (hwd : ws = Cond.code y cc maxL ret :: ws') (hlen : (lg_sl av).length ≤ maxL)
    (body : ∀ (p : Program) (e : Env) (s : State) (m : MethodId) (below : List Frame) (meth : Method) (c : Code) (A : Nat → Prop) (ls : Array Slot), p.tables.exec = Jvm.exec → c.code = cc → c.maxLocals = maxL → s.vm.findClass y.cls = some m.cls → (∀ w ∈ ws, w.before av.toArray s = true) → meth.locks = false → (∀ q : Nat, s.heap.size ≤ q → A q) → (∀ x ∈ c.exceptionTable.toList, False) → wEnv A sa s s.heap → ww G dA A s L f s.heap [] → lv_has ls maxL (lv_args 0 av) →
      W p l e rm s m av.toArray below meth c s.heap [] 0 0 (xMQ G dA L f A k below av.toArray s) (F0 m 0 ls [])) : mX l y ws rm G dA av L f sa k := by
  intro sz
  refine vx_ofW (cc := cc) (maxL := maxL) (ret := ret) hy hwd ?_
  intro p e s m args below meth c s₁ B hml ht hv
  obtain ⟨rfl, ⟨hsz, hP, hK, hD0⟩, hE⟩ := hv
  have hl := lv_entry av (n := maxL) hlen
  rw [lg_entry_eq]
  generalize (lg_sl av ++ List.replicate (maxL - (lg_sl av).length) Slot.unset).toArray = ls at hl ⊢
  subst hsz
  have hD := hD0.self (sz := s.heap.size)
  exact body p e s m below meth c _ ls B.exec B.bytes hml (findClass_of_methodNamed B.named) (atoms_spec (ws := ws) B.pre) B.notSynchronized (fun q h => Or.inr h) ht hE ⟨hK, hP, hD, va_S.rf⟩ hl
section XROWS
variable {p : Program} {l : Launch} {e : Env} {R : Room} {s : State} {m : MethodId} {args : Array Value} {below : List Frame} {meth : Method} {c : Code} {H : Heap} {locs : List Loc} {Q : State → Prop}
variable {cc : ByteArray} {pc : Nat} {ls : Array Slot} {rest : List Value} {G : va_G} {dA : Nat → ClassId} {A : Nat → Prop} {L : List Nat} {f : Nat → va_E} {sa : Nat → Nat} {k : Nat}
theorem mX_throw (hx : p.tables.exec = Jvm.exec) (hb : c.code = cc) (hlt : l.stackTraces = false) (hk : k < 3) (hown : s.vm.findClass RX6 = some m.cls) (hE : wEnv A sa s s.heap) (hw : ww G dA A s L f H locs) (ht : ∀ x ∈ c.exceptionTable.toList, False) {is : Nat} {text : String} (hs : (is, text) ∈ strs) (hsize : ls.size = c.maxLocals)
    (d0 : decode cc pc = .ok (.new (exOf k).2.1, 3)) (d3 : decode cc (pc + 3) = .ok (.dup, 1)) (d4 : decode cc (pc + 4) = .ok (.ldc is, 2)) (d6 : decode cc (pc + 6) = .ok (.invokespecial (exOf k).2.2.1, 3)) (d9 : decode cc (pc + 9) = .ok (.athrow, 1))
    (hRf : 6 < R.frames) (hRl : (rest.map fun v => v.category).sum + 95 ≤ R.locals) (hRc : 1 ≤ R.cells) (hRs : 6 ≤ R.slots) (hlocks : meth.locks = false) :
    W p l e R s m args below meth c H locs 0 0 (xMQ G dA L f A k below args s) (F0 m pc ls rest) := by
  have hn : (exOf k).2.2.2.length ≤ 3 := by match k, hk with | 0, _ => decide | 1, _ => decide | 2, _ => decide
  have hfit : Bundle.fit (exOf k).1 = true := by match k, hk with | 0, _ => decide +kernel | 1, _ => decide +kernel | 2, _ => decide +kernel
  have hfits : ∀ n ∈ (exOf k).2.2.2, Bundle.fit n = true := by match k, hk with | 0, _ => decide +kernel | 1, _ => decide +kernel | 2, _ => decide +kernel
  have hword : ∀ w ∈ exW k, w.before args s = true := fun w h => vx_ot_at (State.WarmedH.refl s) rfl (List.all_eq_true.mp (exW_ot k hk) w h) (hE.2.2.2 k hk w h)
  refine vx_throwS (mc := 1) (ms := 6) (names := (exOf k).2.2.2) hx hb hlt hown hfit hfits (hword _ List.mem_cons_self) (hword _ (List.mem_cons_of_mem _ List.mem_cons_self)) (hE.2.2.1 _ hs) (fun w h => hword w (List.mem_cons_of_mem _ (List.mem_cons_of_mem _ h))) (fun w h => List.all_eq_true.mp (exW_ot k hk) w h) hE.1 hE.2.1 hw.2.2.2 hsize d0 d3 d4 d6 d9 (fun x h => (ht x h).elim) (by omega) (by omega) (by omega) (by omega) hlocks ?_ hw.2.2.2.2.2 (Nat.le_refl _) (Nat.le_refl _)
  intro t hvm hsz hkeep
  refine ⟨(), trivial, ⟨rfl, hw.2.1.kept (fun i q hi => hkeep q.1 ((hw.2.1 i q hi).lt)), va_K.moved hvm hw.1, hw.2.2.1⟩, ?_, ?_⟩
  · exact Nat.le_trans hw.2.2.2.1 hsz
  · intro q h1 h2
    rw [hkeep q (Nat.lt_of_lt_of_le h1 hw.2.2.2.1)]
    exact hw.2.2.2.2.1 q h1 h2
theorem mX_out {ce : Cell} {q : Addr} (hw : ww G dA A s L f H locs) (ht : ∀ x ∈ c.exceptionTable.toList, False) (hlocks : meth.locks = false) (hcell : H[q]? = some ce) (hv : ce.vm = .none) (hcl : s.vm.findClass (exOf k).1 = some ce.cls) :
    vx_W p l e R s m args below meth c H locs 1 6 (xMQ G dA L f A k below args s) (F0 m pc ls rest) q :=
  vx_out (E := (exOf k).1) (fun x h => (ht x h).elim) hlocks hcell hv hcl (fun t hth hvm => ⟨(), trivial, ⟨rfl, by rw [hth]; exact hw.2.1, va_K.moved hvm hw.1, hw.2.2.1⟩, hw.2.2.2.F hth⟩) hw.2.2.2.2.2 (Nat.le_refl _) (Nat.le_refl _)
variable {y : MethodName} {bytes : ByteArray} {maxL nL n index : Nat} {ret : Option FieldType} {ws : List Cond} {rm : Room} {Ts : List Cond} {own C : String} {b : Nat} {As st0 : List Value} {cells slots : Nat}
/-- a call that throws: on to where the exception stands over the caller's frame -/
theorem kX_V (S : CallFix p m c cc nL s args Ts own) (hM : mX l y ws rm G dA (.ref b :: As) L f sa k) (cw : CallW R s args own C index y bytes maxL ret ws rm 1 6 n) (hw : ww G dA A s L f H locs) (hE : wEnv A sa s s.heap) (hA : ∀ q : Nat, s.heap.size ≤ q → A q) (hbL : b ∈ L) {ci : Nat} {fs : List Value} {T : u_T} {N : Nat} (hfb : f b = .inr (ci, fs)) (hc : vwCl[ci]? = some (C, T, N)) (hn : As.length = n) (hsize : ls.size = nL) (hst : st0 = As.reverse ++ .ref b :: rest) (hW : (rest.map fun v => v.category).sum ≤ 8) (hdg : decode cc pc = .ok (.invokevirtual index, 3)) (hcs : cells + 1 ≤ R.cells ∧ slots + 6 ≤ R.slots)
    (kk : ∀ (ce : Cell) (q : Addr) (H1 : Heap) (locs1 : List Loc), ww G dA A s L f H1 locs1 → H1[q]? = some ce → ce.vm = .none → s.vm.findClass (exOf k).1 = some ce.cls → vx_W p l e R s m args below meth c H1 locs1 (cells + 1) (slots + 6) Q (F0 m pc ls rest) q) : W p l e R s m args below meth c H locs cells slots Q (F0 m pc ls st0) := by
  have hF := hw.free hA
  obtain ⟨qi, hq⟩ := pl_get (f := f) hbL
  rw [hfb] at hq
  have hrecv := va_recv hw.1 hw.2.1 hc hq
  have hr := vx_runV (As := As) (rest := rest) (g := F0 m pc ls st0) (H := H) (locs := locs) (cells := cells) (slots := slots) (below := below) (meth := meth) (e := e) S (hM H.size) cw ⟨wPreX.blind, hrecv, fun U hU hW => ⟨rfl, ⟨by rw [hU], by rw [hU]; exact hw.2.1, va_K.moved hW.alike hw.1, hw.2.2.1.weaken (fun _ _ _ _ => trivial)⟩, by rw [hU]; exact wEnv.moved hW hw.2.2.2.2.1 hF hE⟩⟩ rfl hn hsize hst (lv_room hW) hdg hcs
  intro T0 hT X
  rcases hr T0 hT X with ⟨v, st₀, t, T', L2, h0, X', hL, e1, e2, hfalse, st⟩ | ⟨q, st₀, t, T', L2, E, ce, h0, X', hL, e1, e2, ⟨u, -, ⟨hEe, hP, hK, hD⟩, hFr⟩, hce, hcv, hcl, st⟩
  · exact hfalse.elim
  · obtain ⟨k1, k2, k3⟩ := vx_keep h0 e1 hw.2.2.2 (fun q _ h => hF q h) hF hL hFr
    subst hEe
    obtain ⟨t2, a1, b1⟩ := kk ce q T'.heap (locs ++ L2) ⟨hw.1, by rw [e1]; exact hP, hD.weaken (fun _ q _ h => hF q.1 h), k3⟩ (by rw [e1]; exact hce) hcv hcl T' rfl X'
    exact ⟨t2, st.trans a1, b1⟩
theorem kX_S (S : CallFix p m c cc nL s args Ts own) (hM : mX l y ws rm G dA As L f sa k) (cw : CallB R s args own index y bytes maxL ret ws rm 1 6 n ∧ (Cond.static y).before args s = true) (hw : ww G dA A s L f H locs) (hE : wEnv A sa s s.heap) (hA : ∀ q : Nat, s.heap.size ≤ q → A q) (hn : As.length = n) (hsize : ls.size = nL) (hst : st0 = As.reverse ++ rest) (hW : (rest.map fun v => v.category).sum ≤ 8) (hdg : decode cc pc = .ok (.invokestatic index, 3)) (hcs : cells + 1 ≤ R.cells ∧ slots + 6 ≤ R.slots)
    (kk : ∀ (ce : Cell) (q : Addr) (H1 : Heap) (locs1 : List Loc), ww G dA A s L f H1 locs1 → H1[q]? = some ce → ce.vm = .none → s.vm.findClass (exOf k).1 = some ce.cls → vx_W p l e R s m args below meth c H1 locs1 (cells + 1) (slots + 6) Q (F0 m pc ls rest) q) : W p l e R s m args below meth c H locs cells slots Q (F0 m pc ls st0) := by
  have hF := hw.free hA
  have hr := vx_runS (As := As) (rest := rest) (g := F0 m pc ls st0) (H := H) (locs := locs) (cells := cells) (slots := slots) (below := below) (meth := meth) (e := e) S (hM H.size) cw ⟨wPreX.blind, fun U hU hW => ⟨rfl, ⟨by rw [hU], by rw [hU]; exact hw.2.1, va_K.moved hW.alike hw.1, hw.2.2.1.weaken (fun _ _ _ _ => trivial)⟩, by rw [hU]; exact wEnv.moved hW hw.2.2.2.2.1 hF hE⟩⟩ rfl hn hsize hst (lv_room hW) hdg hcs
  intro T0 hT X
  rcases hr T0 hT X with ⟨v, st₀, t, T', L2, h0, X', hL, e1, e2, hfalse, st⟩ | ⟨q, st₀, t, T', L2, E, ce, h0, X', hL, e1, e2, ⟨u, -, ⟨hEe, hP, hK, hD⟩, hFr⟩, hce, hcv, hcl, st⟩
  · exact hfalse.elim
  · obtain ⟨k1, k2, k3⟩ := vx_keep h0 e1 hw.2.2.2 (fun q _ h => hF q h) hF hL hFr
    subst hEe
    obtain ⟨t2, a1, b1⟩ := kk ce q T'.heap (locs ++ L2) ⟨hw.1, by rw [e1]; exact hP, hD.weaken (fun _ q _ h => hF q.1 h), k3⟩ (by rw [e1]; exact hce) hcv hcl T' rfl X'
    exact ⟨t2, st.trans a1, b1⟩
end XROWS
end
