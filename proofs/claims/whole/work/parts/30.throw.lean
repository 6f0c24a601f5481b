/-! ===== exceptions: what a throw needs of the state, and contracts of methods that throw ===== -/
def nAIO : String := "java/lang/ArrayIndexOutOfBoundsException"
def nIAE : String := "java/lang/IllegalArgumentException"
def nISE : String := "java/lang/IllegalStateException"
/-- an exception's name, its class link, its constructor's link, the names between it and Throwable -/
def exOf (k : Nat) : String × Nat × Nat × List String := match k with
  | 0 => (nAIO, 177, 181, ["java/lang/IndexOutOfBoundsException", "java/lang/RuntimeException", "java/lang/Exception"])
  | 1 => (nIAE, 131, 135, ["java/lang/RuntimeException", "java/lang/Exception"])
  | _ => (nISE, 205, 209, ["java/lang/RuntimeException", "java/lang/Exception"])
def exW (k : Nat) : List Cond := .classLink RX6 (exOf k).2.1 (exOf k).1 :: .initialized (exOf k).1 :: vx_atS RX6 (exOf k).2.2.1 (exOf k).1 (exOf k).2.2.2
def strs : List (Nat × String) := [(133, "hours are not 0 .. 100"), (148, "the load is not 0 or more"), (179, "what is not 0 .. 4"), (193, "what is not 0 .. 2"), (195, "no such board"), (197, "no such kind"), (199, "no such layer"), (207, "that board is not there"), (210, "a number is beyond its bounds")]
def castW : Cond → Bool
  | .castable _ _ => true
  | .declares _ => true
  | _ => false
def exOk (w : Cond) : Bool := goodWord w || castW w
theorem exW_ok : ∀ k, k < 3 → (exW k).all exOk = true := by
  intro k hk
  match k, hk with
  | 0, _ => decide +kernel
  | 1, _ => decide +kernel
  | 2, _ => decide +kernel
theorem exW_ot : ∀ k, k < 3 → (exW k).all vx_ot = true := by
  intro k hk
  match k, hk with
  | 0, _ => decide +kernel
  | 1, _ => decide +kernel
  | 2, _ => decide +kernel
def wEnv (A : Nat → Prop) (sa : Nat → Nat) (U : State) (H : Heap) : Prop :=
  vx_Zq Bundle.tN "UNASSIGNED_STACK" Bundle.steD A U H ∧ vx_Zq Bundle.tN "SUPPRESSED_SENTINEL" Bundle.listD A U H ∧ (∀ q ∈ strs, vk_R RX6 q.1 q.2 (sa q.1) U) ∧ ∀ k, k < 3 → ∀ w ∈ exW k, w.before #[] U = true
theorem exOk_moved {w : Cond} {s U : State} (hW : s.WarmedH U.vm) (h : exOk w = true) (hw : w.before #[] s = true) : w.before #[] U = true := by
  unfold exOk at h
  rw [Bool.or_eq_true] at h
  rcases h with h | h
  · exact word_at hW (good_of_word h) hw
  · cases w <;> first | (exact va_Nw.warmC hW hw) | (exact va_Nw.warmD hW hw) | (exact absurd h (by simp [castW]))
theorem wEnv.moved {A B : Nat → Prop} {sa : Nat → Nat} {s U : State} {H0 H : Heap} (hW : s.WarmedH U.vm) (hq : ∀ a : Nat, a < H0.size → ¬ A a → H[a]? = H0[a]?) (hAB : ∀ q, B q → A q) (h : wEnv A sa s H0) : wEnv B sa U H :=
  ⟨vx_Zq.narrow (vx_Zq.moved hW.alike (h.1.kept hq)) hAB, vx_Zq.narrow (vx_Zq.moved hW.alike (h.2.1.kept hq)) hAB, fun q hm => vk_R.warm hW (h.2.2.1 q hm), fun k hk w hw => exOk_moved hW (List.all_eq_true.mp (exW_ok k hk) w hw) (h.2.2.2 k hk w hw)⟩
theorem wEnv.blind {A : Nat → Prop} {sa : Nat → Nat} {U : State} {g : JFrame} {mk : MethodId} {a : Array Value} (h : wEnv A sa U U.heap) : wEnv A sa (U.calling g mk a) (U.calling g mk a).heap :=
  ⟨vx_Zq.moved (u := U) (U := U.calling g mk a) (Vm.Alike.refl U.vm) h.1, vx_Zq.moved (u := U) (U := U.calling g mk a) (Vm.Alike.refl U.vm) h.2.1, fun q hm => vk_R.same rfl (h.2.2.1 q hm), fun k hk w hw => vx_ot_at (s := U) (U := U.calling g mk a) (State.WarmedH.refl U) rfl (List.all_eq_true.mp (exW_ot k hk) w hw) (h.2.2.2 k hk w hw)⟩
def wPreX (G : va_G) (dA : Nat → ClassId) (L : List Nat) (f : Nat → va_E) (sa : Nat → Nat) (sz : Nat) : State → Prop := fun U => wPre G dA L f sz U ∧ wEnv (va_A (va_pl L f) sz) sa U U.heap
theorem wPreX.blind {G : va_G} {dA : Nat → ClassId} {L : List Nat} {f : Nat → va_E} {sa : Nat → Nat} {sz : Nat} {av : List Value} : FrameBlind (va_Pc av (wPreX G dA L f sa sz)) := fun a U g mk q => by
  obtain ⟨q0, ⟨q1, qP, qK, qD⟩, qE⟩ := q
  exact ⟨q0, ⟨q1, qP, va_K.moved (u := U) (U := U.calling g mk a) (Vm.Alike.refl U.vm) qK, qD⟩, wEnv.blind qE⟩
def wXC (G : va_G) (dA : Nat → ClassId) (L : List Nat) (f : Nat → va_E) (A : Nat → Prop) (k : Nat) : String → State → State → Prop :=
  vx_X (fun _ : Unit => True) (fun E _ t => E = (exOf k).1 ∧ va_P G vwCl (va_pl L f) t.heap ∧ va_K G vwCl (tyL dA) t ∧ va_D A (va_pl L f)) A
/-- a method that throws the exception k, the world as it was -/
def mX (l : Launch) (y : MethodName) (ws : List Cond) (rm : Room) (G : va_G) (dA : Nat → ClassId) (av : List Value) (L : List Nat) (f : Nat → va_E) (sa : Nat → Nat) (k : Nat) : Prop :=
  ∀ sz : Nat, vx_Met l y ws rm (va_Pc av (wPreX G dA L f sa sz)) (fun _ _ _ _ => False) (wXC G dA L f (va_A (va_pl L f) sz) k) 1 6 (va_A (va_pl L f) sz)
abbrev xMQ (G : va_G) (dA : Nat → ClassId) (L : List Nat) (f : Nat → va_E) (A : Nat → Prop) (k : Nat) (below : List Frame) (args : Array Value) (s : State) : State → Prop :=
  vx_MQ below (fun _ _ _ _ => False) (wXC G dA L f A k) args s 1 6 A
theorem mX_of {l : Launch} {y : MethodName} {ws ws' : List Cond} {rm : Room} {G : va_G} {dA : Nat → ClassId} {av : List Value} {L : List Nat} {f : Nat → va_E} {sa : Nat → Nat} {k : Nat} {cc : ByteArray} {maxL : Nat} {ret : Option FieldType} (hy : plainName y.cls = true) (hwd : ws = Cond.code y cc maxL ret :: ws') (hlen : (lg_sl av).length ≤ maxL)
    (body : ∀ (p : Program) (e : Env) (s : State) (m : MethodId) (below : List Frame) (meth : Method) (c : Code) (A : Nat → Prop) (ls : Array Slot), p.tables.exec = Jvm.exec → c.code = cc → c.maxLocals = maxL → s.vm.findClass y.cls = some m.cls → (∀ w ∈ ws, w.before av.toArray s = true) → meth.locks = false → (∀ q : Nat, s.heap.size ≤ q → A q) → (∀ x ∈ c.exceptionTable.toList, False) → wEnv A sa s s.heap → ww G dA A s L f s.heap [] → lv_has ls maxL (lv_args 0 av) →
      W p l e rm s m av.toArray below meth c s.heap [] 0 0 (xMQ G dA L f A k below av.toArray s) (F0 m 0 ls [])) : mX l y ws rm G dA av L f sa k := by
  intro sz
  refine vx_ofW (cc := cc) (maxL := maxL) (ret := ret) hy hwd ?_
  intro p e s m args below meth c s₁ B hml ht hv
  obtain ⟨rfl, ⟨hsz, hP, hK, hD0⟩, hE⟩ := hv
  have hl := lv_entry av (n := maxL) hlen
  rw [lg_entry_eq]
  generalize (lg_sl av ++ List.replicate (maxL - (lg_sl av).length) Slot.unset).toArray = ls at hl ⊢
  subst hsz
  have hD := hD0.self (sz := s.heap.size)
  exact body p e s m below meth c _ ls B.exec B.bytes hml (findClass_of_methodNamed B.named) (atoms_spec (ws := ws) B.pre) B.notSynchronized (fun q h => Or.inr h) ht hE ⟨hK, hP, hD, va_S.rf⟩ hl
section XROWS
variable {p : Program} {l : Launch} {e : Env} {R : Room} {s : State} {m : MethodId} {args : Array Value} {below : List Frame} {meth : Method} {c : Code} {H : Heap} {locs : List Loc} {Q : State → Prop}
variable {cc : ByteArray} {pc : Nat} {ls : Array Slot} {rest : List Value} {G : va_G} {dA : Nat → ClassId} {A : Nat → Prop} {L : List Nat} {f : Nat → va_E} {sa : Nat → Nat} {k : Nat}
theorem mX_throw (hx : p.tables.exec = Jvm.exec) (hb : c.code = cc) (hlt : l.stackTraces = false) (hk : k < 3) (hown : s.vm.findClass RX6 = some m.cls) (hE : wEnv A sa s s.heap) (hw : ww G dA A s L f H locs) (ht : ∀ x ∈ c.exceptionTable.toList, False) {is : Nat} {text : String} (hs : (is, text) ∈ strs) (hsize : ls.size = c.maxLocals)
    (d0 : decode cc pc = .ok (.new (exOf k).2.1, 3)) (d3 : decode cc (pc + 3) = .ok (.dup, 1)) (d4 : decode cc (pc + 4) = .ok (.ldc is, 2)) (d6 : decode cc (pc + 6) = .ok (.invokespecial (exOf k).2.2.1, 3)) (d9 : decode cc (pc + 9) = .ok (.athrow, 1))
    (hRf : 6 < R.frames) (hRl : (rest.map fun v => v.category).sum + 95 ≤ R.locals) (hRc : 1 ≤ R.cells) (hRs : 6 ≤ R.slots) (hlocks : meth.locks = false) :
    W p l e R s m args below meth c H locs 0 0 (xMQ G dA L f A k below args s) (F0 m pc ls rest) := by
  have hn : (exOf k).2.2.2.length ≤ 3 := by match k, hk with | 0, _ => decide | 1, _ => decide | 2, _ => decide
  have hfit : Bundle.fit (exOf k).1 = true := by match k, hk with | 0, _ => decide +kernel | 1, _ => decide +kernel | 2, _ => decide +kernel
  have hfits : ∀ n ∈ (exOf k).2.2.2, Bundle.fit n = true := by match k, hk with | 0, _ => decide +kernel | 1, _ => decide +kernel | 2, _ => decide +kernel
  have hword : ∀ w ∈ exW k, w.before args s = true := fun w h => vx_ot_at (State.WarmedH.refl s) rfl (List.all_eq_true.mp (exW_ot k hk) w h) (hE.2.2.2 k hk w h)
  refine vx_throwS (mc := 1) (ms := 6) (names := (exOf k).2.2.2) hx hb hlt hown hfit hfits (hword _ List.mem_cons_self) (hword _ (List.mem_cons_of_mem _ List.mem_cons_self)) (hE.2.2.1 _ hs) (fun w h => hword w (List.mem_cons_of_mem _ (List.mem_cons_of_mem _ h))) (fun w h => List.all_eq_true.mp (exW_ot k hk) w h) hE.1 hE.2.1 hw.2.2.2 hsize d0 d3 d4 d6 d9 (fun x h => (ht x h).elim) (by omega) (by omega) (by omega) (by omega) hlocks ?_ hw.2.2.2.2.2 (Nat.le_refl _) (Nat.le_refl _)
  intro t hvm hsz hkeep
  refine ⟨(), trivial, ⟨rfl, hw.2.1.kept (fun i q hi => hkeep q.1 ((hw.2.1 i q hi).lt)), va_K.moved hvm hw.1, hw.2.2.1⟩, ?_, ?_⟩
  · exact Nat.le_trans hw.2.2.2.1 hsz
  · intro q h1 h2
    rw [hkeep q (Nat.lt_of_lt_of_le h1 hw.2.2.2.1)]
    exact hw.2.2.2.2.1 q h1 h2
theorem mX_out {ce : Cell} {q : Addr} (hw : ww G dA A s L f H locs) (ht : ∀ x ∈ c.exceptionTable.toList, False) (hlocks : meth.locks = false) (hcell : H[q]? = some ce) (hv : ce.vm = .none) (hcl : s.vm.findClass (exOf k).1 = some ce.cls) :
    vx_W p l e R s m args below meth c H locs 1 6 (xMQ G dA L f A k below args s) (F0 m pc ls rest) q :=
  vx_out (E := (exOf k).1) (fun x h => (ht x h).elim) hlocks hcell hv hcl (fun t hth hvm => ⟨(), trivial, ⟨rfl, by rw [hth]; exact hw.2.1, va_K.moved hvm hw.1, hw.2.2.1⟩, hw.2.2.2.F hth⟩) hw.2.2.2.2.2 (Nat.le_refl _) (Nat.le_refl _)
variable {y : MethodName} {bytes : ByteArray} {maxL nL n index : Nat} {ret : Option FieldType} {ws : List Cond} {rm : Room} {Ts : List Cond} {own C : String} {b : Nat} {As st0 : List Value} {cells slots : Nat}
/-- a call that throws: on to where the exception stands over the caller's frame -/
theorem kX_V (S : CallFix p m c cc nL s args Ts own) (hM : mX l y ws rm G dA (.ref b :: As) L f sa k) (cw : CallW R s args own C index y bytes maxL ret ws rm 1 6 n) (hw : ww G dA A s L f H locs) (hE : wEnv A sa s s.heap) (hA : ∀ q : Nat, s.heap.size ≤ q → A q) (hbL : b ∈ L) {ci : Nat} {fs : List Value} {T : u_T} {N : Nat} (hfb : f b = .inr (ci, fs)) (hc : vwCl[ci]? = some (C, T, N)) (hn : As.length = n) (hsize : ls.size = nL) (hst : st0 = As.reverse ++ .ref b :: rest) (hW : (rest.map fun v => v.category).sum ≤ 8) (hdg : decode cc pc = .ok (.invokevirtual index, 3)) (hcs : cells + 1 ≤ R.cells ∧ slots + 6 ≤ R.slots)
    (kk : ∀ (ce : Cell) (q : Addr) (H1 : Heap) (locs1 : List Loc), ww G dA A s L f H1 locs1 → H1[q]? = some ce → ce.vm = .none → s.vm.findClass (exOf k).1 = some ce.cls → vx_W p l e R s m args below meth c H1 locs1 (cells + 1) (slots + 6) Q (F0 m pc ls rest) q) : W p l e R s m args below meth c H locs cells slots Q (F0 m pc ls st0) := by
  have hF := hw.free hA
  obtain ⟨qi, hq⟩ := pl_get (f := f) hbL
  rw [hfb] at hq
  have hrecv := va_recv hw.1 hw.2.1 hc hq
  have hr := vx_runV (As := As) (rest := rest) (g := F0 m pc ls st0) (H := H) (locs := locs) (cells := cells) (slots := slots) (below := below) (meth := meth) (e := e) S (hM H.size) cw ⟨wPreX.blind, hrecv, fun U hU hW => ⟨rfl, ⟨by rw [hU], by rw [hU]; exact hw.2.1, va_K.moved hW.alike hw.1, hw.2.2.1.weaken (fun _ _ _ _ => trivial)⟩, by rw [hU]; exact wEnv.moved hW hw.2.2.2.2.1 hF hE⟩⟩ rfl hn hsize hst (lv_room hW) hdg hcs
  intro T0 hT X
  rcases hr T0 hT X with ⟨v, st₀, t, T', L2, h0, X', hL, e1, e2, hfalse, st⟩ | ⟨q, st₀, t, T', L2, E, ce, h0, X', hL, e1, e2, ⟨u, -, ⟨hEe, hP, hK, hD⟩, hFr⟩, hce, hcv, hcl, st⟩
  · exact hfalse.elim
  · obtain ⟨k1, k2, k3⟩ := vx_keep h0 e1 hw.2.2.2 (fun q _ h => hF q h) hF hL hFr
    subst hEe
    obtain ⟨t2, a1, b1⟩ := kk ce q T'.heap (locs ++ L2) ⟨hw.1, by rw [e1]; exact hP, hD.weaken (fun _ q _ h => hF q.1 h), k3⟩ (by rw [e1]; exact hce) hcv hcl T' rfl X'
    exact ⟨t2, st.trans a1, b1⟩
theorem kX_S (S : CallFix p m c cc nL s args Ts own) (hM : mX l y ws rm G dA As L f sa k) (cw : CallB R s args own index y bytes maxL ret ws rm 1 6 n ∧ (Cond.static y).before args s = true) (hw : ww G dA A s L f H locs) (hE : wEnv A sa s s.heap) (hA : ∀ q : Nat, s.heap.size ≤ q → A q) (hn : As.length = n) (hsize : ls.size = nL) (hst : st0 = As.reverse ++ rest) (hW : (rest.map fun v => v.category).sum ≤ 8) (hdg : decode cc pc = .ok (.invokestatic index, 3)) (hcs : cells + 1 ≤ R.cells ∧ slots + 6 ≤ R.slots)
    (kk : ∀ (ce : Cell) (q : Addr) (H1 : Heap) (locs1 : List Loc), ww G dA A s L f H1 locs1 → H1[q]? = some ce → ce.vm = .none → s.vm.findClass (exOf k).1 = some ce.cls → vx_W p l e R s m args below meth c H1 locs1 (cells + 1) (slots + 6) Q (F0 m pc ls rest) q) : W p l e R s m args below meth c H locs cells slots Q (F0 m pc ls st0) := by
  have hF := hw.free hA
  have hr := vx_runS (As := As) (rest := rest) (g := F0 m pc ls st0) (H := H) (locs := locs) (cells := cells) (slots := slots) (below := below) (meth := meth) (e := e) S (hM H.size) cw ⟨wPreX.blind, fun U hU hW => ⟨rfl, ⟨by rw [hU], by rw [hU]; exact hw.2.1, va_K.moved hW.alike hw.1, hw.2.2.1.weaken (fun _ _ _ _ => trivial)⟩, by rw [hU]; exact wEnv.moved hW hw.2.2.2.2.1 hF hE⟩⟩ rfl hn hsize hst (lv_room hW) hdg hcs
  intro T0 hT X
  rcases hr T0 hT X with ⟨v, st₀, t, T', L2, h0, X', hL, e1, e2, hfalse, st⟩ | ⟨q, st₀, t, T', L2, E, ce, h0, X', hL, e1, e2, ⟨u, -, ⟨hEe, hP, hK, hD⟩, hFr⟩, hce, hcv, hcl, st⟩
  · exact hfalse.elim
  · obtain ⟨k1, k2, k3⟩ := vx_keep h0 e1 hw.2.2.2 (fun q _ h => hF q h) hF hL hFr
    subst hEe
    obtain ⟨t2, a1, b1⟩ := kk ce q T'.heap (locs ++ L2) ⟨hw.1, by rw [e1]; exact hP, hD.weaken (fun _ q _ h => hF q.1 h), k3⟩ (by rw [e1]; exact hce) hcv hcl T' rfl X'
    exact ⟨t2, st.trans a1, b1⟩
end XROWS
