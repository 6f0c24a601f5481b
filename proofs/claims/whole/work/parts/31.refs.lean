/-! ===== methods that answer a cell that is there already ===== -/
def mR (l : Launch) (y : MethodName) (ws : List Cond) (rm : Room) (G : va_G) (dA : Nat → ClassId) (av : List Value) (L : List Nat) (f : Nat → va_E) (v : Nat) : Prop :=
  ∀ sz : Nat, Met l y ws rm (va_Pc av (wPre G dA L f sz)) (va_Qr (fun _ : Unit => True) (fun _ a t => a = v ∧ wPost G dA L (va_A (va_pl L f) sz) f t) (va_A (va_pl L f) sz)) 0 0 (va_A (va_pl L f) sz)
theorem mR_of {l : Launch} {y : MethodName} {ws ws' : List Cond} {rm : Room} {G : va_G} {dA : Nat → ClassId} {av : List Value} {L : List Nat} {f : Nat → va_E} {cc : ByteArray} {maxL v : Nat} {o : String} (hy : plainName y.cls = true) (hwd : ws = Cond.code y cc maxL (some (.object o)) :: ws') (hlen : (lg_sl av).length ≤ maxL)
    (body : ∀ (p : Program) (e : Env) (s : State) (m : MethodId) (below : List Frame) (meth : Method) (c : Code) (A : Nat → Prop) (ls : Array Slot) (Q : State → Prop), p.tables.exec = Jvm.exec → c.code = cc → c.maxLocals = maxL → s.vm.findClass y.cls = some m.cls → (∀ w ∈ ws, w.before av.toArray s = true) → meth.locks = false → (∀ q : Nat, s.heap.size ≤ q → A q) → meth.name = y.name → ww G dA A s L f s.heap [] → lv_has ls maxL (lv_args 0 av) →
      (∀ (H : Heap) (locs : List Loc) (pc : Nat) (ls : Array Slot), ww G dA A s L f H locs → decode cc pc = .ok (.areturn, 1) → W p l e rm s m av.toArray below meth c H locs 0 0 Q (F0 m pc ls [.ref v])) →
      W p l e rm s m av.toArray below meth c s.heap [] 0 0 Q (F0 m 0 ls [])) : mR l y ws rm G dA av L f v := by
  intro sz
  refine Met.ofW (cc := cc) (maxL := maxL) (ret := some (.object o)) hy hwd ?_
  intro p e s m args below meth c s₁ B hml hv
  obtain ⟨rfl, hsz, hP, hK, hD0⟩ := hv
  have hl := lv_entry av (n := maxL) hlen
  rw [lg_entry_eq]
  generalize (lg_sl av ++ List.replicate (maxL - (lg_sl av).length) Slot.unset).toArray = ls at hl ⊢
  subst hsz
  have hD := hD0.self (sz := s.heap.size)
  have hlocks := B.notSynchronized
  exact body p e s m below meth c _ ls _ B.exec B.bytes hml (findClass_of_methodNamed B.named) (atoms_spec (ws := ws) B.pre) hlocks (fun q h => Or.inr h) (name_of_methodNamed B.named B.method).1 ⟨hK, hP, hD, va_S.rf⟩ hl
    (fun H locs pc ls hw hdg => W.aret B.exec B.bytes B.returns (Or.inl ⟨o, rfl⟩) (Or.inr ⟨v, rfl⟩) (fun t ht hW => ⟨⟨(), v, rfl, trivial, rfl, by rw [ht]; exact hw.2.1, va_K.moved hW.alike hw.1, hw.2.2.1⟩, hw.2.2.2.F ht⟩) hw.2.2.2.2.2 hdg hlocks)
theorem kV_R {p : Program} {l : Launch} {e : Env} {R : Room} {s : State} {m : MethodId} {args : Array Value} {below : List Frame} {meth : Method} {c : Code} {H : Heap} {locs : List Loc} {cells slots : Nat} {Q : State → Prop} {cc : ByteArray} {pc : Nat} {ls : Array Slot} {rest : List Value} {G : va_G} {dA : Nat → ClassId} {A : Nat → Prop} {L : List Nat} {f : Nat → va_E} {y : MethodName} {bytes : ByteArray} {maxL nL n index : Nat} {ret : Option FieldType} {ws : List Cond} {rm : Room} {Ts : List Cond} {own C : String} {b v : Nat} {As st0 : List Value}
    (S : CallFix p m c cc nL s args Ts own) (hM : mR l y ws rm G dA (.ref b :: As) L f v) (cw : CallW R s args own C index y bytes maxL ret ws rm 0 0 n) (hw : ww G dA A s L f H locs) (hA : ∀ q : Nat, s.heap.size ≤ q → A q) (hbL : b ∈ L) {ci : Nat} {fs : List Value} {T : u_T} {N : Nat} (hfb : f b = .inr (ci, fs)) (hc : vwCl[ci]? = some (C, T, N)) (hn : As.length = n) (hsize : ls.size = nL) (hst : st0 = As.reverse ++ .ref b :: rest) (hW : (rest.map fun v => v.category).sum ≤ 8) (hdg : decode cc pc = .ok (.invokevirtual index, 3)) (hcs : cells ≤ R.cells ∧ slots ≤ R.slots)
    (kk : ∀ (H1 : Heap) (locs1 : List Loc), ww G dA A s L f H1 locs1 → W p l e R s m args below meth c H1 locs1 cells slots Q (F0 m (pc + 3) ls (.ref v :: rest))) : W p l e R s m args below meth c H locs cells slots Q (F0 m pc ls st0) := by
  have hF := hw.free hA
  obtain ⟨q, hq⟩ := pl_get (f := f) hbL
  rw [hfb] at hq
  have hrecv := va_recv hw.1 hw.2.1 hc hq
  refine va_callr (va_runV (As := As) (rest := rest) S (hM H.size) cw ⟨wPre.blind, hrecv, fun U hU hW => ⟨rfl, by rw [hU], by rw [hU]; exact hw.2.1, va_K.moved hW.alike hw.1, hw.2.2.1.weaken (fun _ _ _ _ => trivial)⟩⟩ rfl hn hsize hst (lv_room hW) hdg hcs) hw.2.2.2 (fun q _ h => hF q h) hF (fun u ra t H1 locs1 ht hvm hp hB _ _ hS => ?_)
  obtain ⟨rfl, hB⟩ := hB
  exact kk H1 locs1 ⟨hw.1, by rw [← ht]; exact hB.1, hB.2.2.weaken (fun _ q _ h => hF q.1 h), hS⟩
theorem cmp_lt0 {o : Option Ordering} (h : Op.cmpValue o .l < 0) : ¬ (o = some .gt ∨ o = some .eq) := by
  rintro (q | q) <;> subst q <;> exact absurd h (by decide)
theorem cmp_nlt0 {o : Option Ordering} (h : ¬ Op.cmpValue o .l < 0) : o = some .gt ∨ o = some .eq := by
  rcases o with _ | o
  · exact absurd (by decide) h
  · cases o
    · exact absurd (by decide) h
    · exact Or.inr rfl
    · exact Or.inl rfl
theorem cmp_gle {o : Option Ordering} (h : Op.cmpValue o .g ≤ 0) : o = some .lt ∨ o = some .eq := by
  rcases o with _ | o
  · exact absurd h (by decide)
  · cases o
    · exact Or.inl rfl
    · exact Or.inr rfl
    · exact absurd h (by decide)
theorem cmp_ngle {o : Option Ordering} (h : ¬ Op.cmpValue o .g ≤ 0) : ¬ (o = some .lt ∨ o = some .eq) := by
  rintro (q | q) <;> subst q <;> exact absurd (by decide) h
theorem cmp_lge {o : Option Ordering} (h : 0 ≤ Op.cmpValue o .l) : o = some .gt ∨ o = some .eq := cmp_nlt0 (fun q => by rw [Int32.lt_iff_toInt_lt] at q; rw [Int32.le_iff_toInt_le] at h; omega)
theorem cmp_nlge {o : Option Ordering} (h : ¬ 0 ≤ Op.cmpValue o .l) : ¬ (o = some .gt ∨ o = some .eq) := by
  rintro (q | q) <;> subst q <;> exact absurd (by decide) h
/-- from .. to, as the document bounds a number -/
def inR (x lo hi : UInt64) : Prop := (FP.dcmp x lo = some .gt ∨ FP.dcmp x lo = some .eq) ∧ (FP.dcmp x hi = some .lt ∨ FP.dcmp x hi = some .eq)
