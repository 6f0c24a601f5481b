/-! ===== a throw that the caller catches; contracts of the law's helpers ===== -/
section CATCH
variable {p : Program} {l : Launch} {e : Env} {R : Room} {s : State} {m : MethodId} {args : Array Value} {below : List Frame} {meth : Method} {c : Code} {H : Heap} {locs : List Loc} {cells slots : Nat} {Q : State → Prop}
variable {pc : Nat} {ls : Array Slot} {rest : List Value}
theorem vx_catch {own name : String} {E : String} {ce : Cell} {q : Addr} (hown : s.vm.findClass own = some m.cls) (pre : List ExceptionTableEntry) (x : ExceptionTableEntry) (suf : List ExceptionTableEntry) (hsplit : c.exceptionTable.toList = pre ++ x :: suf)
    (hpass : ∀ z ∈ pre, covers z pc = false ∨ (z.catchType ≠ 0 ∧ ∃ nm : String, (Cond.classLink own z.catchType nm).before args s = true ∧ va_Nc E nm s)) (hx : covers x pc = true) (h0 : x.catchType ≠ 0)
    (hlink : (Cond.classLink own x.catchType name).before args s = true) (hcast : (Cond.castable E name).before args s = true) (hcell : H[q]? = some ce) (hv : ce.vm = .none) (hcl : s.vm.findClass E = some ce.cls)
    (kk : W p l e R s m args below meth c H locs cells slots Q (F0 m x.handlerPc ls [.ref q])) : vx_W p l e R s m args below meth c H locs cells slots Q (F0 m pc ls rest) q := by
  intro T hT X
  have hpl : e.platform.magicAccessors = ({} : Platform).magicAccessors := by rw [X.admits.platform]
  obtain ⟨c3, c4, hc3, hc4, hasg⟩ := Cond.castable_spec hcast
  cases Option.some.inj (hc3.symm.trans hcl)
  obtain ⟨c5, hc5, hcl5⟩ := Cond.classLink_spec hown hlink e.platform hpl
  cases Option.some.inj (hc4.symm.trans hc5)
  obtain ⟨vm', X', st⟩ := X.thenCaughtThrough q (g := F0 m pc ls rest) rfl (Steps.refl _) (by rw [hT]; exact hcell) (by rw [hv]; rfl) (by obtain ⟨k9, h9, -⟩ := Vm.findClass_spec hcl; exact ⟨k9, h9⟩) pre x suf hsplit
    (fun z hz => by
      rcases hpass z hz with h | ⟨hz0, nm, hl1, hn1⟩
      · exact Or.inl h
      · obtain ⟨c6, hc6, hcl6⟩ := Cond.classLink_spec hown hl1 e.platform hpl
        obtain ⟨a8, b8, h1, h2, h3⟩ := hn1
        cases Option.some.inj (h1.symm.trans hcl)
        cases Option.some.inj (h2.symm.trans hc6)
        exact Or.inr ⟨hz0, _, hcl6, h3⟩) hx (Or.inr ⟨h0, c4, hcl5, hasg⟩)
  obtain ⟨t, a1, b1⟩ := kk (T.setVm vm') hT X'
  exact ⟨t, st.trans a1, b1⟩
end CATCH
def lkW : List Cond := [.classLink RL 13 nAIO, .classLink RL 15 nIAE, .classLink RL 33 nISE, .castable nAIO nAIO, .castable nIAE nIAE, .castable nISE nISE]
theorem lkW_ok : lkW.all exOk = true := by decide +kernel
theorem lkW_ot : lkW.all vx_ot = true := by decide +kernel
def wEnvL (A : Nat → Prop) (sa : Nat → Nat) (U : State) (H : Heap) : Prop := wEnv A sa U H ∧ (∀ w ∈ lkW, w.before #[] U = true) ∧ va_Nc nIAE nAIO U ∧ va_Nc nISE nAIO U ∧ va_Nc nISE nIAE U
theorem wEnvL.moved {A B : Nat → Prop} {sa : Nat → Nat} {s U : State} {H0 H : Heap} (hW : s.WarmedH U.vm) (hq : ∀ a : Nat, a < H0.size → ¬ A a → H[a]? = H0[a]?) (hAB : ∀ q, B q → A q) (h : wEnvL A sa s H0) : wEnvL B sa U H :=
  ⟨wEnv.moved hW hq hAB h.1, fun w hw => exOk_moved hW (List.all_eq_true.mp lkW_ok w hw) (h.2.1 w hw), h.2.2.1.moved hW.alike, h.2.2.2.1.moved hW.alike, h.2.2.2.2.moved hW.alike⟩
theorem wEnvL.blind {A : Nat → Prop} {sa : Nat → Nat} {U : State} {g : JFrame} {mk : MethodId} {a : Array Value} (h : wEnvL A sa U U.heap) : wEnvL A sa (U.calling g mk a) (U.calling g mk a).heap :=
  ⟨wEnv.blind h.1, fun w hw => vx_ot_at (s := U) (U := U.calling g mk a) (State.WarmedH.refl U) rfl (List.all_eq_true.mp lkW_ot w hw) (h.2.1 w hw), va_Nc.moved (u := U) (U := U.calling g mk a) (Vm.Alike.refl U.vm) h.2.2.1, va_Nc.moved (u := U) (U := U.calling g mk a) (Vm.Alike.refl U.vm) h.2.2.2.1, va_Nc.moved (u := U) (U := U.calling g mk a) (Vm.Alike.refl U.vm) h.2.2.2.2⟩
def wPreL (G : va_G) (dA : Nat → ClassId) (L : List Nat) (f : Nat → va_E) (sa : Nat → Nat) (sz : Nat) : State → Prop := fun U => wPre G dA L f sz U ∧ wEnvL (va_A (va_pl L f) sz) sa U U.heap
theorem wPreL.blind {G : va_G} {dA : Nat → ClassId} {L : List Nat} {f : Nat → va_E} {sa : Nat → Nat} {sz : Nat} {av : List Value} : FrameBlind (va_Pc av (wPreL G dA L f sa sz)) := fun a U g mk q => by
  obtain ⟨q0, ⟨q1, qP, qK, qD⟩, qE⟩ := q
  exact ⟨q0, ⟨q1, qP, va_K.moved (u := U) (U := U.calling g mk a) (Vm.Alike.refl U.vm) qK, qD⟩, wEnvL.blind qE⟩
/-- a helper of the law: an int comes back, at most one cell of six slots is made -/
def mH (l : Launch) (y : MethodName) (ws : List Cond) (rm : Room) (G : va_G) (dA : Nat → ClassId) (av : List Value) (L : List Nat) (f : Nat → va_E) (sa : Nat → Nat) (post : Int32 → (Nat → va_E) → Prop) : Prop :=
  ∀ sz : Nat, Met l y ws rm (va_Pc av (wPreL G dA L f sa sz)) (va_Qi post (wPost G dA L (va_A (va_pl L f) sz)) (va_A (va_pl L f) sz)) 1 6 (va_A (va_pl L f) sz)
theorem mH_of {l : Launch} {y : MethodName} {ws ws' : List Cond} {rm : Room} {G : va_G} {dA : Nat → ClassId} {av : List Value} {L : List Nat} {f : Nat → va_E} {sa : Nat → Nat} {cc : ByteArray} {maxL : Nat} {hh : List (Nat × Nat × Nat × Nat)} {post : Int32 → (Nat → va_E) → Prop} (hy : plainName y.cls = true) (hwd : ws = Cond.codeWith y cc maxL (some .int) hh :: ws') (hlen : (lg_sl av).length ≤ maxL)
    (body : ∀ (p : Program) (e : Env) (s : State) (m : MethodId) (below : List Frame) (meth : Method) (c : Code) (A : Nat → Prop) (ls : Array Slot) (Q : State → Prop), p.tables.exec = Jvm.exec → c.code = cc → c.maxLocals = maxL → s.vm.findClass y.cls = some m.cls → (∀ w ∈ ws, w.before av.toArray s = true) → meth.locks = false → (∀ q : Nat, s.heap.size ≤ q → A q) → c.exceptionTable.toList = tableOf hh → wEnvL A sa s s.heap → ww G dA A s L f s.heap [] → lv_has ls maxL (lv_args 0 av) →
      (∀ (H : Heap) (locs : List Loc) (pc : Nat) (ls : Array Slot) (v : Int32) (f2 : Nat → va_E), ww G dA A s L f2 H locs → post v f2 → decode cc pc = .ok (.ireturn, 1) → W p l e rm s m av.toArray below meth c H locs 1 6 Q (F0 m pc ls [.int v])) →
      W p l e rm s m av.toArray below meth c s.heap [] 0 0 Q (F0 m 0 ls [])) : mH l y ws rm G dA av L f sa post := by
  intro sz
  refine va_MetW (cc := cc) (maxL := maxL) (ret := some .int) (hh := hh) hy hwd ?_
  intro p e s m args below meth c s₁ B hml hv
  obtain ⟨rfl, ⟨hsz, hP, hK, hD0⟩, hE⟩ := hv
  have hl := lv_entry av (n := maxL) hlen
  rw [lg_entry_eq]
  generalize (lg_sl av ++ List.replicate (maxL - (lg_sl av).length) Slot.unset).toArray = ls at hl ⊢
  subst hsz
  have hD := hD0.self (sz := s.heap.size)
  have hlocks := B.notSynchronized
  have hts := atoms_spec (ws := ws) B.pre
  have ht := vx_table (x := y) B (hts (Cond.codeWith y cc maxL (some .int) hh) (by rw [hwd]; exact List.mem_cons_self))
  exact body p e s m below meth c _ ls _ B.exec B.bytes hml (findClass_of_methodNamed B.named) hts hlocks (fun q h => Or.inr h) ht hE ⟨hK, hP, hD, va_S.rf⟩ hl
    (fun H locs pc ls v f2 hw hp hdg => W.zret B.exec B.bytes B.returns rfl (fun t ht hW => ⟨⟨v, f2, rfl, hp, by rw [ht]; exact hw.2.1, va_K.moved hW.alike hw.1, hw.2.2.1⟩, hw.2.2.2.F ht⟩) hw.2.2.2.2.2 hdg hlocks)
section HCALL
variable {p : Program} {l : Launch} {e : Env} {R : Room} {s : State} {m : MethodId} {args : Array Value} {below : List Frame} {meth : Method} {c : Code} {H : Heap} {locs : List Loc} {cells slots : Nat} {Q : State → Prop}
variable {cc : ByteArray} {pc : Nat} {ls : Array Slot} {rest : List Value} {G : va_G} {dA : Nat → ClassId} {A : Nat → Prop} {L : List Nat} {f : Nat → va_E} {sa : Nat → Nat}
variable {y : MethodName} {bytes : ByteArray} {maxL nL n index : Nat} {ret : Option FieldType} {hh : List (Nat × Nat × Nat × Nat)} {ws : List Cond} {rm : Room} {Ts : List Cond} {own : String} {As st0 : List Value} {post : Int32 → (Nat → va_E) → Prop}
theorem kH (S : CallFix p m c cc nL s args Ts own) (hM : mH l y ws rm G dA As L f sa post) (cw : vx_CSW R s args own index y bytes maxL ret hh ws rm 1 6 n) (hw : ww G dA A s L f H locs) (hE : wEnvL A sa s s.heap) (hA : ∀ q : Nat, s.heap.size ≤ q → A q) (hn : As.length = n) (hsize : ls.size = nL) (hst : st0 = As.reverse ++ rest) (hW : (rest.map fun v => v.category).sum ≤ 8) (hdg : decode cc pc = .ok (.invokestatic index, 3)) (hcs : cells + 1 ≤ R.cells ∧ slots + 6 ≤ R.slots)
    (kk : ∀ (r : Int32) (f2 : Nat → va_E) (H1 : Heap) (locs1 : List Loc), post r f2 → ww G dA A s L f2 H1 locs1 → W p l e R s m args below meth c H1 locs1 (cells + 1) (slots + 6) Q (F0 m (pc + 3) ls (.int r :: rest))) : W p l e R s m args below meth c H locs cells slots Q (F0 m pc ls st0) := by
  have hF := hw.free hA
  refine va_calli (vx_runSW (As := As) (rest := rest) S (hM H.size) cw ⟨wPreL.blind, fun U hU hW => ⟨rfl, ⟨by rw [hU], by rw [hU]; exact hw.2.1, va_K.moved hW.alike hw.1, hw.2.2.1.weaken (fun _ _ _ _ => trivial)⟩, by rw [hU]; exact wEnvL.moved hW hw.2.2.2.2.1 hF hE⟩⟩ rfl hn hsize hst (lv_room hW) hdg hcs) hw.2.2.2 (fun q _ h => hF q h) hF (fun r f2 t H1 locs1 ht hvm hp hB _ _ hS => kk r f2 H1 locs1 hp ⟨hw.1, ?_, hB.2.2.weaken (fun _ q _ h => hF q.1 h), hS⟩)
  rw [← ht]; exact hB.1
end HCALL

