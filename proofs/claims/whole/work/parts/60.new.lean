/-! ===== making cells: rows, contracts of constructors ===== -/
theorem D_notin {A : Nat → Prop} {L : List Nat} {f : Nat → va_E} {q : Nat} {e : va_E} (h : va_D A (va_pl L f ++ [(q, e)])) : q ∉ L := by
  intro hq
  obtain ⟨k, hk⟩ := pl_get (f := f) hq
  have hlt : k < (va_pl L f).length := (List.getElem?_eq_some_iff.mp hk).1
  have h1 : (va_pl L f ++ [(q, e)])[k]? = some (q, f q) := by rw [List.getElem?_append_left hlt]; exact hk
  have h2 : (va_pl L f ++ [(q, e)])[(va_pl L f).length]? = some (q, e) := by rw [List.getElem?_append_right (Nat.le_refl _), Nat.sub_self]; rfl
  have := h.1 k _ _ _ h1 h2 rfl
  omega
theorem D_nodup {A : Nat → Prop} {L : List Nat} {f : Nat → va_E} (h : va_D A (va_pl L f)) : L.Nodup := by
  refine List.pairwise_iff_getElem.mpr (fun i j hi hj hij he => ?_)
  have h1 : (va_pl L f)[i]? = some (L[i], f L[i]) := by unfold va_pl; rw [List.getElem?_map, List.getElem?_eq_getElem hi]; rfl
  have h2 : (va_pl L f)[j]? = some (L[j], f L[j]) := by unfold va_pl; rw [List.getElem?_map, List.getElem?_eq_getElem hj]; rfl
  have := h.1 i j _ _ h1 h2 he
  omega
section NROWS
variable {p : Program} {l : Launch} {e : Env} {R : Room} {s : State} {m : MethodId} {args : Array Value} {below : List Frame} {meth : Method} {c : Code} {H : Heap} {locs : List Loc} {cells slots : Nat} {Q : State → Prop}
variable {cc : ByteArray} {pc : Nat} {ls : Array Slot} {rest : List Value} {G : va_G} {dA : Nat → ClassId} {A : Nat → Prop} {L : List Nat} {f : Nat → va_E}
theorem wnew (hx : p.tables.exec = Jvm.exec) (hb : c.code = cc) {own C : String} {T : u_T} {N ci index : Nat} {Ts : List Cond} (hts : ∀ w ∈ Ts, w.before args s = true) (hin : ∀ w ∈ u_ws C T N, w ∈ Ts) (ty0 : Nat → FieldType) (hty : ∀ k, k < N → parseFieldDescriptor (T k).2.2.1 = some (ty0 k)) (hown : s.vm.findClass own = some m.cls) (hcl : (Cond.classLink own index C).before args s = true) (hinst : (Cond.instantiable C N).before args s = true) (hini : (Cond.initialized C).before args s = true)
    (hw : ww G dA A s L f H locs) (hA : ∀ q : Nat, s.heap.size ≤ q → A q) (hc : vwCl[ci]? = some (C, T, N)) {fs : List Value} (hfs : ∀ j, j < N → defaultValue (ty0 j) = vp_V fs j) (hcells : cells + 1 ≤ R.cells) (hslots : slots + N ≤ R.slots) (hdg : decode cc pc = .ok (.new index, 3))
    (kk : ∀ (q : Nat) (H1 : Heap), q ∉ L → ww G dA A s (L ++ [q]) (va_up f q (.inr (ci, fs))) H1 locs → W p l e R s m args below meth c H1 locs (cells + 1) (slots + N) Q (F0 m (pc + 3) ls (.ref q :: rest))) : W p l e R s m args below meth c H locs cells slots Q (F0 m pc ls rest) := by
  refine va_new hx hb hts hin ty0 hty hown hcl hinst hini hw.1 hw.2.1 hw.2.2.1 hw.2.2.2 hA hc hfs hcells hslots hdg (fun q H1 hP hD hS => ?_)
  have hq := D_notin hD
  rw [va_pl_push hq] at hP hD
  exact kk q H1 hq ⟨hw.1, hP, hD, hS⟩
theorem wnewa_char (hx : p.tables.exec = Jvm.exec) (hb : c.code = cc) (harr : (Cond.arrayClass .char).before args s = true) (hw : ww G dA A s L f H locs) (hA : ∀ q : Nat, s.heap.size ≤ q → A q) {n : Int32} {N' : Nat} (hn : ¬ n < 0) (hN : n.toNatClampNeg = N') (hbytes : N' * componentBytes .char ≤ 536870912) (hcells : cells + 1 ≤ R.cells) (hslots : slots + N' ≤ R.slots) (hdg : decode cc pc = .ok (.newarray .char, 2))
    (kk : ∀ (q : Nat) (H1 : Heap), q ∉ L → ww G dA A s (L ++ [q]) (va_up f q (aI (dA 0) N' (fun _ => 0))) H1 locs → W p l e R s m args below meth c H1 locs (cells + 1) (slots + N') Q (F0 m (pc + 2) ls (.ref q :: rest))) : W p l e R s m args below meth c H locs cells slots Q (F0 m pc ls (.int n :: rest)) := by
  refine va_newa (atype := .char) (ty := .char) (a0 := (N', .inl (fun _ => 0))) hx hb harr rfl hw.1 hw.2.1 hw.2.2.1 hw.2.2.2 hA (fun _ => rfl) hn hN hbytes hcells hslots hdg (fun q cA H1 hK hP hD hS => ?_)
  have e1 : va_RA s cA .char := (hK.2 7 (cA, .char) rfl).2
  have e2 : va_RA s (dA 0) .char := (hw.1.2 0 (dA 0, .char) rfl).2
  have e3 : cA = dA 0 := Option.some.inj (Eq.trans (Eq.symm e1) e2)
  subst e3
  have hq := D_notin hD
  rw [va_pl_push hq] at hP hD
  exact kk q H1 hq ⟨hw.1, hP, hD, hS⟩
theorem wnewa_double (hx : p.tables.exec = Jvm.exec) (hb : c.code = cc) (harr : (Cond.arrayClass .double).before args s = true) (hw : ww G dA A s L f H locs) (hA : ∀ q : Nat, s.heap.size ≤ q → A q) {n : Int32} {N' : Nat} (hn : ¬ n < 0) (hN : n.toNatClampNeg = N') (hbytes : N' * componentBytes .double ≤ 536870912) (hcells : cells + 1 ≤ R.cells) (hslots : slots + N' ≤ R.slots) (hdg : decode cc pc = .ok (.newarray .double, 2))
    (kk : ∀ (q : Nat) (H1 : Heap), q ∉ L → ww G dA A s (L ++ [q]) (va_up f q (aD (dA 1) N' (fun _ => 0))) H1 locs → W p l e R s m args below meth c H1 locs (cells + 1) (slots + N') Q (F0 m (pc + 2) ls (.ref q :: rest))) : W p l e R s m args below meth c H locs cells slots Q (F0 m pc ls (.int n :: rest)) := by
  refine va_newa (atype := .double) (ty := .double) (a0 := (N', .inr (.inr (.inr (.inl (fun _ => 0)))))) hx hb harr rfl hw.1 hw.2.1 hw.2.2.1 hw.2.2.2 hA (fun _ => rfl) hn hN hbytes hcells hslots hdg (fun q cA H1 hK hP hD hS => ?_)
  have e1 : va_RA s cA .double := (hK.2 7 (cA, .double) rfl).2
  have e2 : va_RA s (dA 1) .double := (hw.1.2 1 (dA 1, .double) rfl).2
  have e3 : cA = dA 1 := Option.some.inj (Eq.trans (Eq.symm e1) e2)
  subst e3
  have hq := D_notin hD
  rw [va_pl_push hq] at hP hD
  exact kk q H1 hq ⟨hw.1, hP, hD, hS⟩
theorem wnewa_int (hx : p.tables.exec = Jvm.exec) (hb : c.code = cc) (harr : (Cond.arrayClass .int).before args s = true) (hw : ww G dA A s L f H locs) (hA : ∀ q : Nat, s.heap.size ≤ q → A q) {n : Int32} {N' : Nat} (hn : ¬ n < 0) (hN : n.toNatClampNeg = N') (hbytes : N' * componentBytes .int ≤ 536870912) (hcells : cells + 1 ≤ R.cells) (hslots : slots + N' ≤ R.slots) (hdg : decode cc pc = .ok (.newarray .int, 2))
    (kk : ∀ (q : Nat) (H1 : Heap), q ∉ L → ww G dA A s (L ++ [q]) (va_up f q (aI (dA 2) N' (fun _ => 0))) H1 locs → W p l e R s m args below meth c H1 locs (cells + 1) (slots + N') Q (F0 m (pc + 2) ls (.ref q :: rest))) : W p l e R s m args below meth c H locs cells slots Q (F0 m pc ls (.int n :: rest)) := by
  refine va_newa (atype := .int) (ty := .int) (a0 := (N', .inl (fun _ => 0))) hx hb harr rfl hw.1 hw.2.1 hw.2.2.1 hw.2.2.2 hA (fun _ => rfl) hn hN hbytes hcells hslots hdg (fun q cA H1 hK hP hD hS => ?_)
  have e1 : va_RA s cA .int := (hK.2 7 (cA, .int) rfl).2
  have e2 : va_RA s (dA 2) .int := (hw.1.2 2 (dA 2, .int) rfl).2
  have e3 : cA = dA 2 := Option.some.inj (Eq.trans (Eq.symm e1) e2)
  subst e3
  have hq := D_notin hD
  rw [va_pl_push hq] at hP hD
  exact kk q H1 hq ⟨hw.1, hP, hD, hS⟩
theorem wnewa_boolean (hx : p.tables.exec = Jvm.exec) (hb : c.code = cc) (harr : (Cond.arrayClass .boolean).before args s = true) (hw : ww G dA A s L f H locs) (hA : ∀ q : Nat, s.heap.size ≤ q → A q) {n : Int32} {N' : Nat} (hn : ¬ n < 0) (hN : n.toNatClampNeg = N') (hbytes : N' * componentBytes .boolean ≤ 536870912) (hcells : cells + 1 ≤ R.cells) (hslots : slots + N' ≤ R.slots) (hdg : decode cc pc = .ok (.newarray .boolean, 2))
    (kk : ∀ (q : Nat) (H1 : Heap), q ∉ L → ww G dA A s (L ++ [q]) (va_up f q (aI (dA 3) N' (fun _ => 0))) H1 locs → W p l e R s m args below meth c H1 locs (cells + 1) (slots + N') Q (F0 m (pc + 2) ls (.ref q :: rest))) : W p l e R s m args below meth c H locs cells slots Q (F0 m pc ls (.int n :: rest)) := by
  refine va_newa (atype := .boolean) (ty := .boolean) (a0 := (N', .inl (fun _ => 0))) hx hb harr rfl hw.1 hw.2.1 hw.2.2.1 hw.2.2.2 hA (fun _ => rfl) hn hN hbytes hcells hslots hdg (fun q cA H1 hK hP hD hS => ?_)
  have e1 : va_RA s cA .boolean := (hK.2 7 (cA, .boolean) rfl).2
  have e2 : va_RA s (dA 3) .boolean := (hw.1.2 3 (dA 3, .boolean) rfl).2
  have e3 : cA = dA 3 := Option.some.inj (Eq.trans (Eq.symm e1) e2)
  subst e3
  have hq := D_notin hD
  rw [va_pl_push hq] at hP hD
  exact kk q H1 hq ⟨hw.1, hP, hD, hS⟩
theorem wnewa_long (hx : p.tables.exec = Jvm.exec) (hb : c.code = cc) (harr : (Cond.arrayClass .long).before args s = true) (hw : ww G dA A s L f H locs) (hA : ∀ q : Nat, s.heap.size ≤ q → A q) {n : Int32} {N' : Nat} (hn : ¬ n < 0) (hN : n.toNatClampNeg = N') (hbytes : N' * componentBytes .long ≤ 536870912) (hcells : cells + 1 ≤ R.cells) (hslots : slots + N' ≤ R.slots) (hdg : decode cc pc = .ok (.newarray .long, 2))
    (kk : ∀ (q : Nat) (H1 : Heap), q ∉ L → ww G dA A s (L ++ [q]) (va_up f q (aL (dA 4) N' (fun _ => 0))) H1 locs → W p l e R s m args below meth c H1 locs (cells + 1) (slots + N') Q (F0 m (pc + 2) ls (.ref q :: rest))) : W p l e R s m args below meth c H locs cells slots Q (F0 m pc ls (.int n :: rest)) := by
  refine va_newa (atype := .long) (ty := .long) (a0 := (N', .inr (.inl (fun _ => 0)))) hx hb harr rfl hw.1 hw.2.1 hw.2.2.1 hw.2.2.2 hA (fun _ => rfl) hn hN hbytes hcells hslots hdg (fun q cA H1 hK hP hD hS => ?_)
  have e1 : va_RA s cA .long := (hK.2 7 (cA, .long) rfl).2
  have e2 : va_RA s (dA 4) .long := (hw.1.2 4 (dA 4, .long) rfl).2
  have e3 : cA = dA 4 := Option.some.inj (Eq.trans (Eq.symm e1) e2)
  subst e3
  have hq := D_notin hD
  rw [va_pl_push hq] at hP hD
  exact kk q H1 hq ⟨hw.1, hP, hD, hS⟩
theorem wnewq_5 (hx : p.tables.exec = Jvm.exec) (hb : c.code = cc) {own : String} {index : Nat} (hown : s.vm.findClass own = some m.cls) (hclink : (Cond.classLink own index RX1).before args s = true) (hover : va_AO RX1 s) (hw : ww G dA A s L f H locs) (hA : ∀ q : Nat, s.heap.size ≤ q → A q) {n : Int32} {N' : Nat} (hn : ¬ n < 0) (hN : n.toNatClampNeg = N') (hbytes : N' * 4 ≤ 536870912) (hcells : cells + 1 ≤ R.cells) (hslots : slots + N' ≤ R.slots) (hdg : decode cc pc = .ok (.anewarray index, 3))
    (kk : ∀ (q : Nat) (H1 : Heap), q ∉ L → ww G dA A s (L ++ [q]) (va_up f q (aQ (dA 5) N' (fun _ => none))) H1 locs → W p l e R s m args below meth c H1 locs (cells + 1) (slots + N') Q (F0 m (pc + 3) ls (.ref q :: rest))) : W p l e R s m args below meth c H locs cells slots Q (F0 m pc ls (.int n :: rest)) := by
  refine va_newq hx hb hown hclink hover hw.1 hw.2.1 hw.2.2.1 hw.2.2.2 hA hn hN hbytes hcells hslots hdg (fun q cA H1 hK hP hD hS => ?_)
  obtain ⟨kA, comp, a1, a2, a3, a4⟩ := (hK.2 7 (cA, .object RX1) rfl).2
  obtain ⟨kA', comp', b1, b2, b3, b4⟩ := (hw.1.2 5 (dA 5, .object RX1) rfl).2
  have e3 : cA = dA 5 := Option.some.inj (Eq.trans (Eq.symm a4) b4)
  subst e3
  have hq := D_notin hD
  rw [va_pl_push hq] at hP hD
  exact kk q H1 hq ⟨hw.1, hP, hD, hS⟩
theorem wnewq_6 (hx : p.tables.exec = Jvm.exec) (hb : c.code = cc) {own : String} {index : Nat} (hown : s.vm.findClass own = some m.cls) (hclink : (Cond.classLink own index RX2).before args s = true) (hover : va_AO RX2 s) (hw : ww G dA A s L f H locs) (hA : ∀ q : Nat, s.heap.size ≤ q → A q) {n : Int32} {N' : Nat} (hn : ¬ n < 0) (hN : n.toNatClampNeg = N') (hbytes : N' * 4 ≤ 536870912) (hcells : cells + 1 ≤ R.cells) (hslots : slots + N' ≤ R.slots) (hdg : decode cc pc = .ok (.anewarray index, 3))
    (kk : ∀ (q : Nat) (H1 : Heap), q ∉ L → ww G dA A s (L ++ [q]) (va_up f q (aQ (dA 6) N' (fun _ => none))) H1 locs → W p l e R s m args below meth c H1 locs (cells + 1) (slots + N') Q (F0 m (pc + 3) ls (.ref q :: rest))) : W p l e R s m args below meth c H locs cells slots Q (F0 m pc ls (.int n :: rest)) := by
  refine va_newq hx hb hown hclink hover hw.1 hw.2.1 hw.2.2.1 hw.2.2.2 hA hn hN hbytes hcells hslots hdg (fun q cA H1 hK hP hD hS => ?_)
  obtain ⟨kA, comp, a1, a2, a3, a4⟩ := (hK.2 7 (cA, .object RX2) rfl).2
  obtain ⟨kA', comp', b1, b2, b3, b4⟩ := (hw.1.2 6 (dA 6, .object RX2) rfl).2
  have e3 : cA = dA 6 := Option.some.inj (Eq.trans (Eq.symm a4) b4)
  subst e3
  have hq := D_notin hD
  rw [va_pl_push hq] at hP hD
  exact kk q H1 hq ⟨hw.1, hP, hD, hS⟩
end NROWS
/-- a constructor: the pool grows -/
def mN (l : Launch) (y : MethodName) (ws : List Cond) (rm : Room) (G : va_G) (dA : Nat → ClassId) (av : List Value) (L : List Nat) (f : Nat → va_E) (mc ms : Nat) (E : State → Prop) (post : List Nat × (Nat → va_E) → Prop) : Prop :=
  ∀ sz : Nat, Met l y ws rm (va_Pc av (fun U => wPre G dA L f sz U ∧ E U)) (va_Qv post (fun u t => wPost G dA u.1 (va_A (va_pl L f) sz) u.2 t) (va_A (va_pl L f) sz)) mc ms (va_A (va_pl L f) sz)
theorem mN_of {l : Launch} {y : MethodName} {ws ws' : List Cond} {rm : Room} {G : va_G} {dA : Nat → ClassId} {av : List Value} {L : List Nat} {f : Nat → va_E} {mc ms : Nat} {E : State → Prop} {cc : ByteArray} {maxL : Nat} {post : List Nat × (Nat → va_E) → Prop} (hy : plainName y.cls = true) (hwd : ws = Cond.code y cc maxL none :: ws') (hlen : (lg_sl av).length ≤ maxL)
    (body : ∀ (p : Program) (e : Env) (s : State) (m : MethodId) (below : List Frame) (meth : Method) (c : Code) (A : Nat → Prop) (ls : Array Slot) (Q : State → Prop), p.tables.exec = Jvm.exec → c.code = cc → c.maxLocals = maxL → s.vm.findClass y.cls = some m.cls → (∀ w ∈ ws, w.before av.toArray s = true) → meth.locks = false → (∀ q : Nat, s.heap.size ≤ q → A q) → meth.name = y.name → E s → ww G dA A s L f s.heap [] → lv_has ls maxL (lv_args 0 av) →
      (∀ (H : Heap) (locs : List Loc) (pc : Nat) (ls : Array Slot) (L2 : List Nat) (f2 : Nat → va_E), ww G dA A s L2 f2 H locs → post (L2, f2) → decode cc pc = .ok (.return_, 1) → W p l e rm s m av.toArray below meth c H locs mc ms Q (F0 m pc ls [])) →
      W p l e rm s m av.toArray below meth c s.heap [] 0 0 Q (F0 m 0 ls [])) : mN l y ws rm G dA av L f mc ms E post := by
  intro sz
  refine Met.ofW (cc := cc) (maxL := maxL) (ret := none) hy hwd ?_
  intro p e s m args below meth c s₁ B hml hv
  obtain ⟨rfl, ⟨hsz, hP, hK, hD0⟩, hE⟩ := hv
  have hl := lv_entry av (n := maxL) hlen
  rw [lg_entry_eq]
  generalize (lg_sl av ++ List.replicate (maxL - (lg_sl av).length) Slot.unset).toArray = ls at hl ⊢
  subst hsz
  have hD := hD0.self (sz := s.heap.size)
  have hlocks := B.notSynchronized
  exact body p e s m below meth c _ ls _ B.exec B.bytes hml (findClass_of_methodNamed B.named) (atoms_spec (ws := ws) B.pre) hlocks (fun q h => Or.inr h) (name_of_methodNamed B.named B.method).1 hE ⟨hK, hP, hD, va_S.rf⟩ hl
    (fun H locs pc ls L2 f2 hw hp hdg => W.vret B.exec B.bytes B.returns (fun t ht hW => ⟨⟨(L2, f2), rfl, hp, by rw [ht]; exact hw.2.1, va_K.moved hW.alike hw.1, hw.2.2.1⟩, hw.2.2.2.F ht⟩) hw.2.2.2.2.2 hdg hlocks)
section NCALL
variable {p : Program} {l : Launch} {e : Env} {R : Room} {s : State} {m : MethodId} {args : Array Value} {below : List Frame} {meth : Method} {c : Code} {H : Heap} {locs : List Loc} {cells slots : Nat} {Q : State → Prop}
variable {cc : ByteArray} {pc : Nat} {ls : Array Slot} {rest : List Value} {G : va_G} {dA : Nat → ClassId} {A : Nat → Prop} {L : List Nat} {f : Nat → va_E}
variable {y : MethodName} {bytes : ByteArray} {maxL nL n index mc ms : Nat} {ws : List Cond} {rm : Room} {Ts : List Cond} {own host : String} {b : Nat} {As st0 : List Value} {E : State → Prop} {post : List Nat × (Nat → va_E) → Prop}
theorem kI_N (S : CallFix p m c cc nL s args Ts own) (hM : mN l y ws rm G dA (.ref b :: As) L f mc ms E post) (cw : CallB R s args own index y bytes maxL none ws rm mc ms n ∧ y.name = "<init>" ∧ (Cond.instanceMethod y).before args s = true) (hw : ww G dA A s L f H locs) (hA : ∀ q : Nat, s.heap.size ≤ q → A q)
    (hE1 : ∀ U : State, s.WarmedH U.vm → E U) (hE2 : ∀ (a : Array Value) (U : State) (g : JFrame) (mk : MethodId), E U → E (U.calling g mk a)) (hn : As.length = n) (hsize : ls.size = nL) (hst : st0 = As.reverse ++ .ref b :: rest) (hW : (rest.map fun v => v.category).sum ≤ 8) (hdg : decode cc pc = .ok (.invokespecial index, 3)) (hcs : cells + mc ≤ R.cells ∧ slots + ms ≤ R.slots)
    (kk : ∀ (L2 : List Nat) (f2 : Nat → va_E) (H1 : Heap) (locs1 : List Loc), post (L2, f2) → ww G dA A s L2 f2 H1 locs1 → W p l e R s m args below meth c H1 locs1 (cells + mc) (slots + ms) Q (F0 m (pc + 3) ls rest)) : W p l e R s m args below meth c H locs cells slots Q (F0 m pc ls st0) := by
  have hF := hw.free hA
  refine va_callv (va_runI (As := As) (rest := rest) S (hM H.size) cw ⟨fun a U g mk q => ?_, fun U hU hW => ⟨rfl, ⟨by rw [hU], by rw [hU]; exact hw.2.1, va_K.moved hW.alike hw.1, hw.2.2.1.weaken (fun _ _ _ _ => trivial)⟩, hE1 U hW⟩⟩ rfl hn hsize hst (lv_room hW) hdg hcs) hw.2.2.2 (fun q _ h => hF q h) hF (fun u t H1 locs1 ht hvm hp hB _ _ hS => kk u.1 u.2 H1 locs1 hp ⟨hw.1, ?_, hB.2.2.weaken (fun _ q _ h => hF q.1 h), hS⟩)
  · obtain ⟨q0, ⟨q1, qP, qK, qD⟩, qE⟩ := q
    exact ⟨q0, ⟨q1, qP, va_K.moved (u := U) (U := U.calling g mk a) (Vm.Alike.refl U.vm) qK, qD⟩, hE2 a U g mk qE⟩
  · rw [← ht]; exact hB.1
theorem kN_N (S : CallFix p m c cc nL s args Ts own) (hM : mN l y ws rm G dA (.ref b :: As) L f mc ms E post) (cw : va_CN R s args own index y host bytes maxL none ws rm mc ms n ∧ y.name = "<init>" ∧ (Cond.instanceMethod y).before args s = true) (hw : ww G dA A s L f H locs) (hA : ∀ q : Nat, s.heap.size ≤ q → A q)
    (hE1 : ∀ U : State, s.WarmedH U.vm → E U) (hE2 : ∀ (a : Array Value) (U : State) (g : JFrame) (mk : MethodId), E U → E (U.calling g mk a)) (hn : As.length = n) (hsize : ls.size = nL) (hst : st0 = As.reverse ++ .ref b :: rest) (hW : (rest.map fun v => v.category).sum ≤ 8) (hdg : decode cc pc = .ok (.invokespecial index, 3)) (hcs : cells + mc ≤ R.cells ∧ slots + ms ≤ R.slots)
    (kk : ∀ (L2 : List Nat) (f2 : Nat → va_E) (H1 : Heap) (locs1 : List Loc), post (L2, f2) → ww G dA A s L2 f2 H1 locs1 → W p l e R s m args below meth c H1 locs1 (cells + mc) (slots + ms) Q (F0 m (pc + 3) ls rest)) : W p l e R s m args below meth c H locs cells slots Q (F0 m pc ls st0) := by
  have hF := hw.free hA
  refine va_callv (va_runIN (As := As) (rest := rest) S (hM H.size) cw ⟨fun a U g mk q => ?_, fun U hU hW => ⟨rfl, ⟨by rw [hU], by rw [hU]; exact hw.2.1, va_K.moved hW.alike hw.1, hw.2.2.1.weaken (fun _ _ _ _ => trivial)⟩, hE1 U hW⟩⟩ rfl hn hsize hst (lv_room hW) hdg hcs) hw.2.2.2 (fun q _ h => hF q h) hF (fun u t H1 locs1 ht hvm hp hB _ _ hS => kk u.1 u.2 H1 locs1 hp ⟨hw.1, ?_, hB.2.2.weaken (fun _ q _ h => hF q.1 h), hS⟩)
  · obtain ⟨q0, ⟨q1, qP, qK, qD⟩, qE⟩ := q
    exact ⟨q0, ⟨q1, qP, va_K.moved (u := U) (U := U.calling g mk a) (Vm.Alike.refl U.vm) qK, qD⟩, hE2 a U g mk qE⟩
  · rw [← ht]; exact hB.1
end NCALL
def nstW : List Cond := [.methodLinkNest RX6 28 yX2_init RX6, .methodLinkNest RX6 40 yX0_init RX6, .methodLinkNest RX6 47 yX3_init RX6, .methodLinkNest RX6 54 yX5_init RX6, .methodLinkNest RX6 61 yX4_init RX6]
def nE (U : State) : Prop := (va_AO RX1 U ∧ va_AO RX2 U) ∧ ∀ w ∈ nstW, va_Nw w U
theorem nE.moved {s U : State} (hW : s.WarmedH U.vm) (h : nE s) : nE U := by
  refine ⟨⟨h.1.1.moved hW.alike, h.1.2.moved hW.alike⟩, fun w hw => ?_⟩
  have h1 := h.2 w hw
  simp only [nstW, List.mem_cons, List.not_mem_nil, or_false] at hw
  rcases hw with rfl | rfl | rfl | rfl | rfl <;> exact va_Nw.warmM hW h1
theorem nE.blind {U : State} {g : JFrame} {mk : MethodId} {a : Array Value} (h : nE U) : nE (U.calling g mk a) := by
  refine ⟨⟨h.1.1.moved (Vm.Alike.refl U.vm), h.1.2.moved (Vm.Alike.refl U.vm)⟩, fun w hw => ?_⟩
  have h1 := h.2 w hw
  simp only [nstW, List.mem_cons, List.not_mem_nil, or_false] at hw
  rcases hw with rfl | rfl | rfl | rfl | rfl <;> exact va_Nw.same rfl rfl h1
/-- into 1 .. hi -/
def clN (hi : Nat) (v : Int32) : Nat := if v < 1 then 1 else if nI hi < v then hi else v.toNatClampNeg
theorem clN_ok {hi : Nat} (h1 : 1 ≤ hi) (hh : hi < 2 ^ 31) (v : Int32) : (1 ≤ clN hi v ∧ clN hi v ≤ hi) ∧ (if 1 < (if v < nI hi then v else nI hi) then (if v < nI hi then v else nI hi) else 1) = nI (clN hi v) ∧ (v < 1 → nI (clN hi v) = 1) ∧ (¬ v < 1 → nI hi < v → nI (clN hi v) = nI hi) ∧ (¬ v < 1 → ¬ nI hi < v → nI (clN hi v) = v) := by
  unfold clN
  by_cases a : v < 1
  · rw [if_pos a]
    have a2 : v < nI hi ∨ v = nI hi ∨ nI hi < v := by
      rw [Int32.lt_iff_toInt_lt, Int32.lt_iff_toInt_lt, ← Int32.toInt_inj]; omega
    refine ⟨⟨Nat.le_refl 1, h1⟩, ?_, fun _ => rfl, fun h => absurd a h, fun h => absurd a h⟩
    by_cases b : v < nI hi
    · rw [if_pos b]
      have hn : ¬ 1 < v := fun h => by rw [Int32.lt_iff_toInt_lt] at a h; omega
      rw [if_neg hn]; rfl
    · rw [if_neg b]
      have hn : ¬ 1 < nI hi := fun h => b (by rw [Int32.lt_iff_toInt_lt] at a h ⊢; omega)
      rw [if_neg hn]; rfl
  · rw [if_neg a]
    have hv0 : ¬ v < 0 := fun h => a (by rw [Int32.lt_iff_toInt_lt] at h ⊢; exact Int.lt_trans h (by decide))
    obtain ⟨j, hj, rfl⟩ := nI_of hv0
    have hj1 : 1 ≤ j := Nat.le_of_not_lt fun h => a (show nI j < nI 1 from nI_lt h (by decide))
    by_cases b : nI hi < nI j
    · rw [if_pos b]
      have hb2 : ¬ nI j < nI hi := fun h => by rw [Int32.lt_iff_toInt_lt] at b h; omega
      refine ⟨⟨h1, Nat.le_refl _⟩, ?_, fun h => absurd h a, fun _ _ => rfl, fun _ h => absurd b h⟩
      rw [if_neg hb2]
      by_cases e : hi = 1
      · subst e; rfl
      · rw [if_pos (show (1 : Int32) < nI hi from nI_lt (a := 1) (by omega) hh)]
    · rw [if_neg b, nI_clamp hj]
      have hjh : j ≤ hi := Nat.le_of_not_lt fun h => b (nI_lt h hj)
      refine ⟨⟨hj1, hjh⟩, ?_, fun h => absurd h a, fun _ h => absurd h b, fun _ _ => rfl⟩
      by_cases e : j = hi
      · subst e
        rw [if_neg (nI_nlt (Nat.le_refl _) hh)]
        by_cases e1 : j = 1
        · subst e1; rfl
        · rw [if_pos (show (1 : Int32) < nI j from nI_lt (a := 1) (by omega) hh)]
      · rw [if_pos (nI_lt (by omega) hh)]
        by_cases e1 : j = 1
        · subst e1; rfl
        · rw [if_pos (show (1 : Int32) < nI j from nI_lt (a := 1) (by omega) hj)]

