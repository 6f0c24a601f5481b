/-! ===== worlds: one pool of cells: L the addresses, f what each holds ===== -/
abbrev tyL (dA : Nat → ClassId) : List (ClassId × FieldType) := [(dA 0, .char), (dA 1, .double), (dA 2, .int), (dA 3, .boolean), (dA 4, .long), (dA 5, .object RX1), (dA 6, .object RX2)]
abbrev aI (cA : ClassId) (n : Nat) (g : Nat → Int32) : va_E := .inl (cA, n, .inl g)
abbrev aL (cA : ClassId) (n : Nat) (g : Nat → Int64) : va_E := .inl (cA, n, .inr (.inl g))
abbrev aD (cA : ClassId) (n : Nat) (g : Nat → UInt64) : va_E := .inl (cA, n, .inr (.inr (.inr (.inl g))))
abbrev aQ (cA : ClassId) (n : Nat) (g : Nat → Option Nat) : va_E := .inl (cA, n, .inr (.inr (.inr (.inr g))))
def ww (G : va_G) (dA : Nat → ClassId) (A : Nat → Prop) (s : State) (L : List Nat) (f : Nat → va_E) (H : Heap) (locs : List Loc) : Prop :=
  va_K G vwCl (tyL dA) s ∧ va_P G vwCl (va_pl L f) H ∧ va_D A (va_pl L f) ∧ va_S A s.heap H locs
theorem pl_get {L : List Nat} {f : Nat → va_E} {a : Nat} (h : a ∈ L) : ∃ k : Nat, (va_pl L f)[k]? = some (a, f a) := va_pl_get (X := []) h
theorem pl_set {A : Nat → Prop} {L : List Nat} {f : Nat → va_E} {a k : Nat} {e : va_E} (hD : va_D A (va_pl L f)) (h : a ∈ L) (hk : (va_pl L f)[k]? = some (a, f a)) : (va_pl L f).set k (a, e) = va_pl L (va_up f a e) := va_pl_set (X := []) hD h hk
theorem ww.free {G : va_G} {dA : Nat → ClassId} {A : Nat → Prop} {s : State} {L : List Nat} {f : Nat → va_E} {H : Heap} {locs : List Loc} (hw : ww G dA A s L f H locs) (hA : ∀ q, s.heap.size ≤ q → A q) : ∀ q, va_A (va_pl L f) H.size q → A q := by
  intro q h
  rcases h with ⟨k, e, h⟩ | h
  · exact hw.2.2.1.2 k (q, e) h
  · exact hA q (Nat.le_trans hw.2.2.2.1 h)
def wPre (G : va_G) (dA : Nat → ClassId) (L : List Nat) (f : Nat → va_E) (sz : Nat) : State → Prop := fun U => U.heap.size = sz ∧ va_P G vwCl (va_pl L f) U.heap ∧ va_K G vwCl (tyL dA) U ∧ va_D (fun _ => True) (va_pl L f)
def wPost (G : va_G) (dA : Nat → ClassId) (L : List Nat) (A : Nat → Prop) : (Nat → va_E) → State → Prop := fun f2 t => va_P G vwCl (va_pl L f2) t.heap ∧ va_K G vwCl (tyL dA) t ∧ va_D A (va_pl L f2)
theorem wPre.blind {G : va_G} {dA : Nat → ClassId} {L : List Nat} {f : Nat → va_E} {sz : Nat} {av : List Value} : FrameBlind (va_Pc av (wPre G dA L f sz)) := fun a U g mk q => by
  obtain ⟨q0, q1, qP, qK, qD⟩ := q
  exact ⟨q0, q1, qP, va_K.moved (u := U) (U := U.calling g mk a) (Vm.Alike.refl U.vm) qK, qD⟩
section WROWS
variable {p : Program} {l : Launch} {e : Env} {R : Room} {s : State} {m : MethodId} {args : Array Value} {below : List Frame} {meth : Method} {c : Code} {H : Heap} {locs : List Loc} {cells slots : Nat} {Q : State → Prop}
variable {cc : ByteArray} {pc : Nat} {ls : Array Slot} {rest : List Value} {G : va_G} {dA : Nat → ClassId} {A : Nat → Prop} {a : Nat} {L : List Nat} {f : Nat → va_E}
theorem wg (hx : p.tables.exec = Jvm.exec) (hb : c.code = cc) {own ref C : String} {T : u_T} {N ci index : Nat} {Ts : List Cond} (hts : ∀ w ∈ Ts, w.before args s = true) (hin : ∀ w ∈ u_ws C T N, w ∈ Ts) (hown : s.vm.findClass own = some m.cls) (hw : ww G dA A s L f H locs) (hL : a ∈ L) {fs : List Value} (hf : f a = .inr (ci, fs)) (hc : vwCl[ci]? = some (C, T, N)) (k : Nat) (hk : k < N) (hlink : (Cond.fieldLink own index ref (T k).2.1 (T k).2.2.1).before args s = true) (hsame : ∀ x, s.fieldFound? (T k).1 (T k).2.1 (T k).2.2.1 = some x → s.fieldFound? ref (T k).2.1 (T k).2.2.1 = some x) {v : Value} (hv : fs[k]? = some v) (hdg : decode cc pc = .ok (.getfield index, 3))
    (kk : W p l e R s m args below meth c H locs cells slots Q (F0 m (pc + 3) ls (v :: rest))) : W p l e R s m args below meth c H locs cells slots Q (F0 m pc ls (.ref a :: rest)) := by
  obtain ⟨q, hq⟩ := pl_get (f := f) hL
  rw [hf] at hq
  exact va_get hx hb hts hin hown hw.1 hw.2.1 q hq hc k hk hlink hsame hv hdg kk
theorem wp_ (hx : p.tables.exec = Jvm.exec) (hb : c.code = cc) {own ref C : String} {T : u_T} {N ci index : Nat} {Ts : List Cond} (hts : ∀ w ∈ Ts, w.before args s = true) (hin : ∀ w ∈ u_ws C T N, w ∈ Ts) (ty0 : Nat → FieldType) (hty : ∀ k, k < N → parseFieldDescriptor (T k).2.2.1 = some (ty0 k)) (hnm : ∀ a, a < N → ∀ b, b < N → a ≠ b → (T a).2.1 ≠ (T b).2.1) (hown : s.vm.findClass own = some m.cls) (hw : ww G dA A s L f H locs) (hL : a ∈ L) {fs : List Value} (hf : f a = .inr (ci, fs)) (hc : vwCl[ci]? = some (C, T, N)) (k : Nat) (hk : k < N) (hlink : (Cond.fieldLink own index ref (T k).2.1 (T k).2.2.1).before args s = true) (hsame : ∀ x, s.fieldFound? (T k).1 (T k).2.1 (T k).2.2.1 = some x → s.fieldFound? ref (T k).2.1 (T k).2.2.1 = some x) (hfin : (T k).2.2.2 = false) {ty : FieldType} {v : Value} (hd : parseFieldDescriptor (T k).2.2.1 = some ty) (hn : narrow ty v = v) (hfit : fits ty v = true) (hl : k < fs.length)
    (hdg : decode cc pc = .ok (.putfield index, 3)) (kk : ∀ (H1 : Heap) (locs1 : List Loc), ww G dA A s L (va_up f a (.inr (ci, fs.set k v))) H1 locs1 → W p l e R s m args below meth c H1 locs1 cells slots Q (F0 m (pc + 3) ls rest)) : W p l e R s m args below meth c H locs cells slots Q (F0 m pc ls (v :: .ref a :: rest)) := by
  obtain ⟨q, hq⟩ := pl_get (f := f) hL
  have hq' := hq
  rw [hf] at hq'
  refine va_put hx hb hts hin ty0 hty hnm hown hw.1 hw.2.1 hw.2.2.1 hw.2.2.2 q hq' hc k hk hlink hsame hfin hd hn hfit hl hdg (fun H1 locs1 hP hD hS => kk H1 locs1 ⟨hw.1, ?_, ?_, hS⟩)
  · rw [← pl_set hw.2.2.1 hL hq]; exact hP
  · rw [← pl_set hw.2.2.1 hL hq]; exact hD
theorem wpF_ (hx : p.tables.exec = Jvm.exec) (hb : c.code = cc) {own ref C : String} {T : u_T} {N ci index : Nat} {Ts : List Cond} (hts : ∀ w ∈ Ts, w.before args s = true) (hin : ∀ w ∈ u_ws C T N, w ∈ Ts) (ty0 : Nat → FieldType) (hty : ∀ k, k < N → parseFieldDescriptor (T k).2.2.1 = some (ty0 k)) (hnm : ∀ a, a < N → ∀ b, b < N → a ≠ b → (T a).2.1 ≠ (T b).2.1) (hown : s.vm.findClass own = some m.cls) (hw : ww G dA A s L f H locs) (hL : a ∈ L) {fs : List Value} (hf : f a = .inr (ci, fs)) (hc : vwCl[ci]? = some (C, T, N)) (k : Nat) (hk : k < N) (hlink : (Cond.fieldLink own index ref (T k).2.1 (T k).2.2.1).before args s = true) (hsame : ∀ x, s.fieldFound? (T k).1 (T k).2.1 (T k).2.2.1 = some x → s.fieldFound? ref (T k).2.1 (T k).2.2.1 = some x) (hfin : (T k).2.2.2 = true) (hin2 : meth.name = "<init>") (hdecl : (T k).1 = own) {ty : FieldType} {v : Value} (hd : parseFieldDescriptor (T k).2.2.1 = some ty) (hn : narrow ty v = v) (hfit : fits ty v = true) (hl : k < fs.length)
    (hdg : decode cc pc = .ok (.putfield index, 3)) (kk : ∀ (H1 : Heap) (locs1 : List Loc), ww G dA A s L (va_up f a (.inr (ci, fs.set k v))) H1 locs1 → W p l e R s m args below meth c H1 locs1 cells slots Q (F0 m (pc + 3) ls rest)) : W p l e R s m args below meth c H locs cells slots Q (F0 m pc ls (v :: .ref a :: rest)) := by
  obtain ⟨q, hq⟩ := pl_get (f := f) hL
  have hq' := hq
  rw [hf] at hq'
  refine va_putF hx hb hts hin ty0 hty hnm hown hw.1 hw.2.1 hw.2.2.1 hw.2.2.2 q hq' hc k hk hlink hsame hfin hin2 hdecl hd hn hfit hl hdg (fun H1 locs1 hP hD hS => kk H1 locs1 ⟨hw.1, ?_, ?_, hS⟩)
  · rw [← pl_set hw.2.2.1 hL hq]; exact hP
  · rw [← pl_set hw.2.2.1 hL hq]; exact hD
theorem wlen (hx : p.tables.exec = Jvm.exec) (hb : c.code = cc) (t0 : Nat) (hw : ww G dA A s L f H locs) (hL : a ∈ L) {cA : ClassId} {x : vp_A} (hf : f a = .inl (cA, x)) {ty : FieldType} (ht : (tyL dA)[t0]? = some (cA, ty)) (hdg : decode cc pc = .ok (.arraylength, 1))
    (kk : W p l e R s m args below meth c H locs cells slots Q (F0 m (pc + 1) ls (.int (nI x.1) :: rest))) : W p l e R s m args below meth c H locs cells slots Q (F0 m pc ls (.ref a :: rest)) := by
  obtain ⟨q, hq⟩ := pl_get (f := f) hL
  rw [hf] at hq
  exact va_alen hx hb hw.1 hw.2.1 q t0 hq ht rfl hdg kk
theorem wld_i (hx : p.tables.exec = Jvm.exec) (hb : c.code = cc) (hw : ww G dA A s L f H locs) (hL : a ∈ L) {n : Nat} {g : Nat → Int32} (hf : f a = aI (dA 2) n g) {i : Int32} (j : Nat) (hj : j < n) (hn : n < 2 ^ 31) (hi : i = nI j) (hdg : decode cc pc = .ok (.iaload, 1))
    (kk : W p l e R s m args below meth c H locs cells slots Q (F0 m (pc + 1) ls (.int (g j) :: rest))) : W p l e R s m args below meth c H locs cells slots Q (F0 m pc ls (.int i :: .ref a :: rest)) := by
  obtain ⟨q, hq⟩ := pl_get (f := f) hL
  rw [hf] at hq
  subst hi
  refine va_iald hx hb hw.1 hw.2.1 q 2 hq rfl (vp_in_nI hj hn) hdg ?_
  rw [nI_clamp (Nat.lt_trans hj hn)]
  exact kk
theorem wld_z (hx : p.tables.exec = Jvm.exec) (hb : c.code = cc) (hw : ww G dA A s L f H locs) (hL : a ∈ L) {n : Nat} {g : Nat → Int32} (hf : f a = aI (dA 3) n g) {i : Int32} (j : Nat) (hj : j < n) (hn : n < 2 ^ 31) (hi : i = nI j) (hdg : decode cc pc = .ok (.baload, 1))
    (kk : W p l e R s m args below meth c H locs cells slots Q (F0 m (pc + 1) ls (.int (g j) :: rest))) : W p l e R s m args below meth c H locs cells slots Q (F0 m pc ls (.int i :: .ref a :: rest)) := by
  obtain ⟨q, hq⟩ := pl_get (f := f) hL
  rw [hf] at hq
  subst hi
  refine va_zald hx hb hw.1 hw.2.1 q 3 hq rfl (vp_in_nI hj hn) hdg ?_
  rw [nI_clamp (Nat.lt_trans hj hn)]
  exact kk
theorem wld_c (hx : p.tables.exec = Jvm.exec) (hb : c.code = cc) (hw : ww G dA A s L f H locs) (hL : a ∈ L) {n : Nat} {g : Nat → Int32} (hf : f a = aI (dA 0) n g) {i : Int32} (j : Nat) (hj : j < n) (hn : n < 2 ^ 31) (hi : i = nI j) (hdg : decode cc pc = .ok (.caload, 1))
    (kk : W p l e R s m args below meth c H locs cells slots Q (F0 m (pc + 1) ls (.int (g j) :: rest))) : W p l e R s m args below meth c H locs cells slots Q (F0 m pc ls (.int i :: .ref a :: rest)) := by
  obtain ⟨q, hq⟩ := pl_get (f := f) hL
  rw [hf] at hq
  subst hi
  refine va_cald hx hb hw.1 hw.2.1 q 0 hq rfl (vp_in_nI hj hn) hdg ?_
  rw [nI_clamp (Nat.lt_trans hj hn)]
  exact kk
theorem wld_d (hx : p.tables.exec = Jvm.exec) (hb : c.code = cc) (hw : ww G dA A s L f H locs) (hL : a ∈ L) {n : Nat} {g : Nat → UInt64} (hf : f a = aD (dA 1) n g) {i : Int32} (j : Nat) (hj : j < n) (hn : n < 2 ^ 31) (hi : i = nI j) (hdg : decode cc pc = .ok (.daload, 1))
    (kk : W p l e R s m args below meth c H locs cells slots Q (F0 m (pc + 1) ls (.double (g j) :: rest))) : W p l e R s m args below meth c H locs cells slots Q (F0 m pc ls (.int i :: .ref a :: rest)) := by
  obtain ⟨q, hq⟩ := pl_get (f := f) hL
  rw [hf] at hq
  subst hi
  refine va_dald hx hb hw.1 hw.2.1 q 1 hq rfl (vp_in_nI hj hn) hdg ?_
  rw [nI_clamp (Nat.lt_trans hj hn)]
  exact kk
theorem wld_l (hx : p.tables.exec = Jvm.exec) (hb : c.code = cc) (hw : ww G dA A s L f H locs) (hL : a ∈ L) {n : Nat} {g : Nat → Int64} (hf : f a = aL (dA 4) n g) {i : Int32} (j : Nat) (hj : j < n) (hn : n < 2 ^ 31) (hi : i = nI j) (hdg : decode cc pc = .ok (.laload, 1))
    (kk : W p l e R s m args below meth c H locs cells slots Q (F0 m (pc + 1) ls (.long (g j) :: rest))) : W p l e R s m args below meth c H locs cells slots Q (F0 m pc ls (.int i :: .ref a :: rest)) := by
  obtain ⟨q, hq⟩ := pl_get (f := f) hL
  rw [hf] at hq
  subst hi
  refine va_lald hx hb hw.1 hw.2.1 q 4 hq rfl (vp_in_nI hj hn) hdg ?_
  rw [nI_clamp (Nat.lt_trans hj hn)]
  exact kk
theorem wld_q5 (hx : p.tables.exec = Jvm.exec) (hb : c.code = cc) (hw : ww G dA A s L f H locs) (hL : a ∈ L) {n : Nat} {g : Nat → Option Nat} (hf : f a = aQ (dA 5) n g) {i : Int32} (j : Nat) (hj : j < n) (hn : n < 2 ^ 31) (hi : i = nI j) (hdg : decode cc pc = .ok (.aaload, 1)) {v : Nat} (hv : g j = some v)
    (kk : W p l e R s m args below meth c H locs cells slots Q (F0 m (pc + 1) ls (.ref v :: rest))) : W p l e R s m args below meth c H locs cells slots Q (F0 m pc ls (.int i :: .ref a :: rest)) := by
  obtain ⟨q, hq⟩ := pl_get (f := f) hL
  rw [hf] at hq
  subst hi
  refine va_aldq hx hb hw.1 hw.2.1 q 5 hq rfl (vp_in_nI hj hn) hdg ?_
  rw [nI_clamp (Nat.lt_trans hj hn), hv]
  exact kk
theorem wld_q6 (hx : p.tables.exec = Jvm.exec) (hb : c.code = cc) (hw : ww G dA A s L f H locs) (hL : a ∈ L) {n : Nat} {g : Nat → Option Nat} (hf : f a = aQ (dA 6) n g) {i : Int32} (j : Nat) (hj : j < n) (hn : n < 2 ^ 31) (hi : i = nI j) (hdg : decode cc pc = .ok (.aaload, 1)) {v : Nat} (hv : g j = some v)
    (kk : W p l e R s m args below meth c H locs cells slots Q (F0 m (pc + 1) ls (.ref v :: rest))) : W p l e R s m args below meth c H locs cells slots Q (F0 m pc ls (.int i :: .ref a :: rest)) := by
  obtain ⟨q, hq⟩ := pl_get (f := f) hL
  rw [hf] at hq
  subst hi
  refine va_aldq hx hb hw.1 hw.2.1 q 6 hq rfl (vp_in_nI hj hn) hdg ?_
  rw [nI_clamp (Nat.lt_trans hj hn), hv]
  exact kk
theorem wst_i (hx : p.tables.exec = Jvm.exec) (hb : c.code = cc) (hw : ww G dA A s L f H locs) (hL : a ∈ L) {n : Nat} {g : Nat → Int32} (hf : f a = aI (dA 2) n g) {i : Int32} {x : Int32} (j : Nat) (hj : j < n) (hn : n < 2 ^ 31) (hi : i = nI j) (hdg : decode cc pc = .ok (.iastore, 1))
    (kk : ∀ (H1 : Heap) (locs1 : List Loc), ww G dA A s L (va_up f a (aI (dA 2) n (upd g j x))) H1 locs1 → W p l e R s m args below meth c H1 locs1 cells slots Q (F0 m (pc + 1) ls rest)) : W p l e R s m args below meth c H locs cells slots Q (F0 m pc ls (.int x :: .int i :: .ref a :: rest)) := by
  obtain ⟨q, hq⟩ := pl_get (f := f) hL
  have hq' := hq
  rw [hf] at hq'
  subst hi
  refine va_iast hx hb hw.1 hw.2.1 hw.2.2.1 hw.2.2.2 q 2 hq' rfl (vp_in_nI hj hn) hdg (fun H1 locs1 hP hD hS => kk H1 locs1 ⟨hw.1, ?_, ?_, hS⟩)
  · rw [nI_clamp (Nat.lt_trans hj hn)] at hP; rw [← pl_set hw.2.2.1 hL hq]; exact hP
  · rw [nI_clamp (Nat.lt_trans hj hn)] at hD; rw [← pl_set hw.2.2.1 hL hq]; exact hD
theorem wst_z (hx : p.tables.exec = Jvm.exec) (hb : c.code = cc) (hw : ww G dA A s L f H locs) (hL : a ∈ L) {n : Nat} {g : Nat → Int32} (hf : f a = aI (dA 3) n g) {i : Int32} {x : Int32} (j : Nat) (hj : j < n) (hn : n < 2 ^ 31) (hi : i = nI j) (hdg : decode cc pc = .ok (.bastore, 1))
    (kk : ∀ (H1 : Heap) (locs1 : List Loc), ww G dA A s L (va_up f a (aI (dA 3) n (upd g j (vp_nar .boolean x)))) H1 locs1 → W p l e R s m args below meth c H1 locs1 cells slots Q (F0 m (pc + 1) ls rest)) : W p l e R s m args below meth c H locs cells slots Q (F0 m pc ls (.int x :: .int i :: .ref a :: rest)) := by
  obtain ⟨q, hq⟩ := pl_get (f := f) hL
  have hq' := hq
  rw [hf] at hq'
  subst hi
  refine va_zast hx hb hw.1 hw.2.1 hw.2.2.1 hw.2.2.2 q 3 hq' rfl (vp_in_nI hj hn) hdg (fun H1 locs1 hP hD hS => kk H1 locs1 ⟨hw.1, ?_, ?_, hS⟩)
  · rw [nI_clamp (Nat.lt_trans hj hn)] at hP; rw [← pl_set hw.2.2.1 hL hq]; exact hP
  · rw [nI_clamp (Nat.lt_trans hj hn)] at hD; rw [← pl_set hw.2.2.1 hL hq]; exact hD
theorem wst_c (hx : p.tables.exec = Jvm.exec) (hb : c.code = cc) (hw : ww G dA A s L f H locs) (hL : a ∈ L) {n : Nat} {g : Nat → Int32} (hf : f a = aI (dA 0) n g) {i : Int32} {x : Int32} (j : Nat) (hj : j < n) (hn : n < 2 ^ 31) (hi : i = nI j) (hdg : decode cc pc = .ok (.castore, 1))
    (kk : ∀ (H1 : Heap) (locs1 : List Loc), ww G dA A s L (va_up f a (aI (dA 0) n (upd g j (vp_nar .char x)))) H1 locs1 → W p l e R s m args below meth c H1 locs1 cells slots Q (F0 m (pc + 1) ls rest)) : W p l e R s m args below meth c H locs cells slots Q (F0 m pc ls (.int x :: .int i :: .ref a :: rest)) := by
  obtain ⟨q, hq⟩ := pl_get (f := f) hL
  have hq' := hq
  rw [hf] at hq'
  subst hi
  refine va_cast hx hb hw.1 hw.2.1 hw.2.2.1 hw.2.2.2 q 0 hq' rfl (vp_in_nI hj hn) hdg (fun H1 locs1 hP hD hS => kk H1 locs1 ⟨hw.1, ?_, ?_, hS⟩)
  · rw [nI_clamp (Nat.lt_trans hj hn)] at hP; rw [← pl_set hw.2.2.1 hL hq]; exact hP
  · rw [nI_clamp (Nat.lt_trans hj hn)] at hD; rw [← pl_set hw.2.2.1 hL hq]; exact hD
theorem wst_d (hx : p.tables.exec = Jvm.exec) (hb : c.code = cc) (hw : ww G dA A s L f H locs) (hL : a ∈ L) {n : Nat} {g : Nat → UInt64} (hf : f a = aD (dA 1) n g) {i : Int32} {x : UInt64} (j : Nat) (hj : j < n) (hn : n < 2 ^ 31) (hi : i = nI j) (hdg : decode cc pc = .ok (.dastore, 1))
    (kk : ∀ (H1 : Heap) (locs1 : List Loc), ww G dA A s L (va_up f a (aD (dA 1) n (vf_upd g j x))) H1 locs1 → W p l e R s m args below meth c H1 locs1 cells slots Q (F0 m (pc + 1) ls rest)) : W p l e R s m args below meth c H locs cells slots Q (F0 m pc ls (.double x :: .int i :: .ref a :: rest)) := by
  obtain ⟨q, hq⟩ := pl_get (f := f) hL
  have hq' := hq
  rw [hf] at hq'
  subst hi
  refine va_dast hx hb hw.1 hw.2.1 hw.2.2.1 hw.2.2.2 q 1 hq' rfl (vp_in_nI hj hn) hdg (fun H1 locs1 hP hD hS => kk H1 locs1 ⟨hw.1, ?_, ?_, hS⟩)
  · rw [nI_clamp (Nat.lt_trans hj hn)] at hP; rw [← pl_set hw.2.2.1 hL hq]; exact hP
  · rw [nI_clamp (Nat.lt_trans hj hn)] at hD; rw [← pl_set hw.2.2.1 hL hq]; exact hD
theorem wst_l (hx : p.tables.exec = Jvm.exec) (hb : c.code = cc) (hw : ww G dA A s L f H locs) (hL : a ∈ L) {n : Nat} {g : Nat → Int64} (hf : f a = aL (dA 4) n g) {i : Int32} {x : Int64} (j : Nat) (hj : j < n) (hn : n < 2 ^ 31) (hi : i = nI j) (hdg : decode cc pc = .ok (.lastore, 1))
    (kk : ∀ (H1 : Heap) (locs1 : List Loc), ww G dA A s L (va_up f a (aL (dA 4) n (vp_updL g j x))) H1 locs1 → W p l e R s m args below meth c H1 locs1 cells slots Q (F0 m (pc + 1) ls rest)) : W p l e R s m args below meth c H locs cells slots Q (F0 m pc ls (.long x :: .int i :: .ref a :: rest)) := by
  obtain ⟨q, hq⟩ := pl_get (f := f) hL
  have hq' := hq
  rw [hf] at hq'
  subst hi
  refine va_last hx hb hw.1 hw.2.1 hw.2.2.1 hw.2.2.2 q 4 hq' rfl (vp_in_nI hj hn) hdg (fun H1 locs1 hP hD hS => kk H1 locs1 ⟨hw.1, ?_, ?_, hS⟩)
  · rw [nI_clamp (Nat.lt_trans hj hn)] at hP; rw [← pl_set hw.2.2.1 hL hq]; exact hP
  · rw [nI_clamp (Nat.lt_trans hj hn)] at hD; rw [← pl_set hw.2.2.1 hL hq]; exact hD
theorem wst_q5 (hx : p.tables.exec = Jvm.exec) (hb : c.code = cc) (hw : ww G dA A s L f H locs) (hL : a ∈ L) {n v : Nat} {vs : List Value} {g : Nat → Option Nat} (hf : f a = aQ (dA 5) n g) (hv : v ∈ L) (hfv : f v = .inr (2, vs)) {i : Int32} (j : Nat) (hj : j < n) (hn : n < 2 ^ 31) (hi : i = nI j) (hdg : decode cc pc = .ok (.aastore, 1))
    (kk : ∀ (H1 : Heap) (locs1 : List Loc), ww G dA A s L (va_up f a (aQ (dA 5) n (va_up g j (some v)))) H1 locs1 → W p l e R s m args below meth c H1 locs1 cells slots Q (F0 m (pc + 1) ls rest)) : W p l e R s m args below meth c H locs cells slots Q (F0 m pc ls (.ref v :: .int i :: .ref a :: rest)) := by
  obtain ⟨q, hq⟩ := pl_get (f := f) hL
  have hq' := hq
  rw [hf] at hq'
  obtain ⟨qk, hqk⟩ := pl_get (f := f) hv
  rw [hfv] at hqk
  subst hi
  refine va_astq hx hb hw.1 hw.2.1 hw.2.2.1 hw.2.2.2 q 5 qk 2 hq' rfl hqk rfl (vp_in_nI hj hn) hdg (fun H1 locs1 hP hD hS => kk H1 locs1 ⟨hw.1, ?_, ?_, hS⟩)
  · rw [nI_clamp (Nat.lt_trans hj hn)] at hP; rw [← pl_set hw.2.2.1 hL hq]; exact hP
  · rw [nI_clamp (Nat.lt_trans hj hn)] at hD; rw [← pl_set hw.2.2.1 hL hq]; exact hD
theorem wst_q6 (hx : p.tables.exec = Jvm.exec) (hb : c.code = cc) (hw : ww G dA A s L f H locs) (hL : a ∈ L) {n v : Nat} {vs : List Value} {g : Nat → Option Nat} (hf : f a = aQ (dA 6) n g) (hv : v ∈ L) (hfv : f v = .inr (3, vs)) {i : Int32} (j : Nat) (hj : j < n) (hn : n < 2 ^ 31) (hi : i = nI j) (hdg : decode cc pc = .ok (.aastore, 1))
    (kk : ∀ (H1 : Heap) (locs1 : List Loc), ww G dA A s L (va_up f a (aQ (dA 6) n (va_up g j (some v)))) H1 locs1 → W p l e R s m args below meth c H1 locs1 cells slots Q (F0 m (pc + 1) ls rest)) : W p l e R s m args below meth c H locs cells slots Q (F0 m pc ls (.ref v :: .int i :: .ref a :: rest)) := by
  obtain ⟨q, hq⟩ := pl_get (f := f) hL
  have hq' := hq
  rw [hf] at hq'
  obtain ⟨qk, hqk⟩ := pl_get (f := f) hv
  rw [hfv] at hqk
  subst hi
  refine va_astq hx hb hw.1 hw.2.1 hw.2.2.1 hw.2.2.2 q 6 qk 3 hq' rfl hqk rfl (vp_in_nI hj hn) hdg (fun H1 locs1 hP hD hS => kk H1 locs1 ⟨hw.1, ?_, ?_, hS⟩)
  · rw [nI_clamp (Nat.lt_trans hj hn)] at hP; rw [← pl_set hw.2.2.1 hL hq]; exact hP
  · rw [nI_clamp (Nat.lt_trans hj hn)] at hD; rw [← pl_set hw.2.2.1 hL hq]; exact hD
end WROWS
section WCON
variable {l : Launch} {y : MethodName} {ws ws' : List Cond} {rm : Room} {G : va_G} {dA : Nat → ClassId} {av : List Value} {L : List Nat} {f : Nat → va_E} {cc : ByteArray} {maxL : Nat}
def mD (l : Launch) (y : MethodName) (ws : List Cond) (rm : Room) (G : va_G) (dA : Nat → ClassId) (av : List Value) (L : List Nat) (f : Nat → va_E) (post : UInt64 → (Nat → va_E) → Prop) : Prop :=
  ∀ sz : Nat, Met l y ws rm (va_Pc av (wPre G dA L f sz)) (va_Qd post (wPost G dA L (va_A (va_pl L f) sz)) (va_A (va_pl L f) sz)) 0 0 (va_A (va_pl L f) sz)
theorem mD_of {post : UInt64 → (Nat → va_E) → Prop} (hy : plainName y.cls = true) (hwd : ws = Cond.code y cc maxL (some .double) :: ws') (hlen : (lg_sl av).length ≤ maxL)
    (body : ∀ (p : Program) (e : Env) (s : State) (m : MethodId) (below : List Frame) (meth : Method) (c : Code) (A : Nat → Prop) (ls : Array Slot) (Q : State → Prop), p.tables.exec = Jvm.exec → c.code = cc → c.maxLocals = maxL → s.vm.findClass y.cls = some m.cls → (∀ w ∈ ws, w.before av.toArray s = true) → meth.locks = false → (∀ q : Nat, s.heap.size ≤ q → A q) → meth.name = y.name → ww G dA A s L f s.heap [] → lv_has ls maxL (lv_args 0 av) →
      (∀ (H : Heap) (locs : List Loc) (pc : Nat) (ls : Array Slot) (v : UInt64) (f2 : Nat → va_E), ww G dA A s L f2 H locs → post v f2 → decode cc pc = .ok (.dreturn, 1) → W p l e rm s m av.toArray below meth c H locs 0 0 Q (F0 m pc ls [.double v])) →
      W p l e rm s m av.toArray below meth c s.heap [] 0 0 Q (F0 m 0 ls [])) : mD l y ws rm G dA av L f post := by
  intro sz
  refine Met.ofW (cc := cc) (maxL := maxL) (ret := (some .double)) hy hwd ?_
  intro p e s m args below meth c s₁ B hml hv
  obtain ⟨rfl, hsz, hP, hK, hD0⟩ := hv
  have hl := lv_entry av (n := maxL) hlen
  rw [lg_entry_eq]
  generalize (lg_sl av ++ List.replicate (maxL - (lg_sl av).length) Slot.unset).toArray = ls at hl ⊢
  subst hsz
  have hD := hD0.self (sz := s.heap.size)
  have hlocks := B.notSynchronized
  exact body p e s m below meth c _ ls _ B.exec B.bytes hml (findClass_of_methodNamed B.named) (atoms_spec (ws := ws) B.pre) hlocks (fun q h => Or.inr h) (name_of_methodNamed B.named B.method).1 ⟨hK, hP, hD, va_S.rf⟩ hl
    (fun H locs pc ls v f2 hw hp hdg => W.dret B.exec B.bytes B.returns (fun t ht hW => ⟨⟨v, f2, rfl, hp, by rw [ht]; exact hw.2.1, va_K.moved hW.alike hw.1, hw.2.2.1⟩, hw.2.2.2.F ht⟩) hw.2.2.2.2.2 hdg hlocks)
def mI (l : Launch) (y : MethodName) (ws : List Cond) (rm : Room) (G : va_G) (dA : Nat → ClassId) (av : List Value) (L : List Nat) (f : Nat → va_E) (post : Int32 → (Nat → va_E) → Prop) : Prop :=
  ∀ sz : Nat, Met l y ws rm (va_Pc av (wPre G dA L f sz)) (va_Qi post (wPost G dA L (va_A (va_pl L f) sz)) (va_A (va_pl L f) sz)) 0 0 (va_A (va_pl L f) sz)
theorem mI_of {rt : FieldType} {post : Int32 → (Nat → va_E) → Prop} (hy : plainName y.cls = true) (hwd : ws = Cond.code y cc maxL (some rt) :: ws') (hlen : (lg_sl av).length ≤ maxL)
    (body : ∀ (p : Program) (e : Env) (s : State) (m : MethodId) (below : List Frame) (meth : Method) (c : Code) (A : Nat → Prop) (ls : Array Slot) (Q : State → Prop), p.tables.exec = Jvm.exec → c.code = cc → c.maxLocals = maxL → s.vm.findClass y.cls = some m.cls → (∀ w ∈ ws, w.before av.toArray s = true) → meth.locks = false → (∀ q : Nat, s.heap.size ≤ q → A q) → meth.name = y.name → ww G dA A s L f s.heap [] → lv_has ls maxL (lv_args 0 av) →
      (∀ (H : Heap) (locs : List Loc) (pc : Nat) (ls : Array Slot) (v : Int32) (f2 : Nat → va_E), ww G dA A s L f2 H locs → post v f2 → narrow rt (.int v) = .int v → decode cc pc = .ok (.ireturn, 1) → W p l e rm s m av.toArray below meth c H locs 0 0 Q (F0 m pc ls [.int v])) →
      W p l e rm s m av.toArray below meth c s.heap [] 0 0 Q (F0 m 0 ls [])) : mI l y ws rm G dA av L f post := by
  intro sz
  refine Met.ofW (cc := cc) (maxL := maxL) (ret := (some rt)) hy hwd ?_
  intro p e s m args below meth c s₁ B hml hv
  obtain ⟨rfl, hsz, hP, hK, hD0⟩ := hv
  have hl := lv_entry av (n := maxL) hlen
  rw [lg_entry_eq]
  generalize (lg_sl av ++ List.replicate (maxL - (lg_sl av).length) Slot.unset).toArray = ls at hl ⊢
  subst hsz
  have hD := hD0.self (sz := s.heap.size)
  have hlocks := B.notSynchronized
  exact body p e s m below meth c _ ls _ B.exec B.bytes hml (findClass_of_methodNamed B.named) (atoms_spec (ws := ws) B.pre) hlocks (fun q h => Or.inr h) (name_of_methodNamed B.named B.method).1 ⟨hK, hP, hD, va_S.rf⟩ hl
    (fun H locs pc ls v f2 hw hp hn hdg => W.zret B.exec B.bytes B.returns hn (fun t ht hW => ⟨⟨v, f2, rfl, hp, by rw [ht]; exact hw.2.1, va_K.moved hW.alike hw.1, hw.2.2.1⟩, hw.2.2.2.F ht⟩) hw.2.2.2.2.2 hdg hlocks)
def mL (l : Launch) (y : MethodName) (ws : List Cond) (rm : Room) (G : va_G) (dA : Nat → ClassId) (av : List Value) (L : List Nat) (f : Nat → va_E) (post : Int64 → (Nat → va_E) → Prop) : Prop :=
  ∀ sz : Nat, Met l y ws rm (va_Pc av (wPre G dA L f sz)) (va_Ql post (wPost G dA L (va_A (va_pl L f) sz)) (va_A (va_pl L f) sz)) 0 0 (va_A (va_pl L f) sz)
theorem mL_of {post : Int64 → (Nat → va_E) → Prop} (hy : plainName y.cls = true) (hwd : ws = Cond.code y cc maxL (some .long) :: ws') (hlen : (lg_sl av).length ≤ maxL)
    (body : ∀ (p : Program) (e : Env) (s : State) (m : MethodId) (below : List Frame) (meth : Method) (c : Code) (A : Nat → Prop) (ls : Array Slot) (Q : State → Prop), p.tables.exec = Jvm.exec → c.code = cc → c.maxLocals = maxL → s.vm.findClass y.cls = some m.cls → (∀ w ∈ ws, w.before av.toArray s = true) → meth.locks = false → (∀ q : Nat, s.heap.size ≤ q → A q) → meth.name = y.name → ww G dA A s L f s.heap [] → lv_has ls maxL (lv_args 0 av) →
      (∀ (H : Heap) (locs : List Loc) (pc : Nat) (ls : Array Slot) (v : Int64) (f2 : Nat → va_E), ww G dA A s L f2 H locs → post v f2 → decode cc pc = .ok (.lreturn, 1) → W p l e rm s m av.toArray below meth c H locs 0 0 Q (F0 m pc ls [.long v])) →
      W p l e rm s m av.toArray below meth c s.heap [] 0 0 Q (F0 m 0 ls [])) : mL l y ws rm G dA av L f post := by
  intro sz
  refine Met.ofW (cc := cc) (maxL := maxL) (ret := (some .long)) hy hwd ?_
  intro p e s m args below meth c s₁ B hml hv
  obtain ⟨rfl, hsz, hP, hK, hD0⟩ := hv
  have hl := lv_entry av (n := maxL) hlen
  rw [lg_entry_eq]
  generalize (lg_sl av ++ List.replicate (maxL - (lg_sl av).length) Slot.unset).toArray = ls at hl ⊢
  subst hsz
  have hD := hD0.self (sz := s.heap.size)
  have hlocks := B.notSynchronized
  exact body p e s m below meth c _ ls _ B.exec B.bytes hml (findClass_of_methodNamed B.named) (atoms_spec (ws := ws) B.pre) hlocks (fun q h => Or.inr h) (name_of_methodNamed B.named B.method).1 ⟨hK, hP, hD, va_S.rf⟩ hl
    (fun H locs pc ls v f2 hw hp hdg => W.lret B.exec B.bytes B.returns (fun t ht hW => ⟨⟨v, f2, rfl, hp, by rw [ht]; exact hw.2.1, va_K.moved hW.alike hw.1, hw.2.2.1⟩, hw.2.2.2.F ht⟩) hw.2.2.2.2.2 hdg hlocks)
def mV (l : Launch) (y : MethodName) (ws : List Cond) (rm : Room) (G : va_G) (dA : Nat → ClassId) (av : List Value) (L : List Nat) (f : Nat → va_E) (post : (Nat → va_E) → Prop) : Prop :=
  ∀ sz : Nat, Met l y ws rm (va_Pc av (wPre G dA L f sz)) (va_Qv post (wPost G dA L (va_A (va_pl L f) sz)) (va_A (va_pl L f) sz)) 0 0 (va_A (va_pl L f) sz)
theorem mV_of {post : (Nat → va_E) → Prop} (hy : plainName y.cls = true) (hwd : ws = Cond.code y cc maxL none :: ws') (hlen : (lg_sl av).length ≤ maxL)
    (body : ∀ (p : Program) (e : Env) (s : State) (m : MethodId) (below : List Frame) (meth : Method) (c : Code) (A : Nat → Prop) (ls : Array Slot) (Q : State → Prop), p.tables.exec = Jvm.exec → c.code = cc → c.maxLocals = maxL → s.vm.findClass y.cls = some m.cls → (∀ w ∈ ws, w.before av.toArray s = true) → meth.locks = false → (∀ q : Nat, s.heap.size ≤ q → A q) → meth.name = y.name → ww G dA A s L f s.heap [] → lv_has ls maxL (lv_args 0 av) →
      (∀ (H : Heap) (locs : List Loc) (pc : Nat) (ls : Array Slot) (f2 : Nat → va_E), ww G dA A s L f2 H locs → post f2 → decode cc pc = .ok (.return_, 1) → W p l e rm s m av.toArray below meth c H locs 0 0 Q (F0 m pc ls [])) →
      W p l e rm s m av.toArray below meth c s.heap [] 0 0 Q (F0 m 0 ls [])) : mV l y ws rm G dA av L f post := by
  intro sz
  refine Met.ofW (cc := cc) (maxL := maxL) (ret := none) hy hwd ?_
  intro p e s m args below meth c s₁ B hml hv
  obtain ⟨rfl, hsz, hP, hK, hD0⟩ := hv
  have hl := lv_entry av (n := maxL) hlen
  rw [lg_entry_eq]
  generalize (lg_sl av ++ List.replicate (maxL - (lg_sl av).length) Slot.unset).toArray = ls at hl ⊢
  subst hsz
  have hD := hD0.self (sz := s.heap.size)
  have hlocks := B.notSynchronized
  exact body p e s m below meth c _ ls _ B.exec B.bytes hml (findClass_of_methodNamed B.named) (atoms_spec (ws := ws) B.pre) hlocks (fun q h => Or.inr h) (name_of_methodNamed B.named B.method).1 ⟨hK, hP, hD, va_S.rf⟩ hl
    (fun H locs pc ls f2 hw hp hdg => W.vret B.exec B.bytes B.returns (fun t ht hW => ⟨⟨f2, rfl, hp, by rw [ht]; exact hw.2.1, va_K.moved hW.alike hw.1, hw.2.2.1⟩, hw.2.2.2.F ht⟩) hw.2.2.2.2.2 hdg hlocks)
end WCON
section WEND
variable {p : Program} {l : Launch} {e : Env} {R : Room} {s : State} {m : MethodId} {args : Array Value} {below : List Frame} {meth : Method} {c : Code} {H : Heap} {locs : List Loc} {cells slots : Nat} {Q : State → Prop}
variable {cc : ByteArray} {pc : Nat} {ls : Array Slot} {rest : List Value} {G : va_G} {dA : Nat → ClassId} {A : Nat → Prop} {L : List Nat} {f : Nat → va_E}
variable {y : MethodName} {bytes : ByteArray} {maxL nL n index : Nat} {ret : Option FieldType} {ws : List Cond} {rm : Room} {Ts : List Cond} {own C : String} {b : Nat} {As st0 : List Value}
theorem kV_D {post : UInt64 → (Nat → va_E) → Prop} (S : CallFix p m c cc nL s args Ts own) (hM : mD l y ws rm G dA (.ref b :: As) L f post) (cw : CallW R s args own C index y bytes maxL ret ws rm 0 0 n) (hw : ww G dA A s L f H locs) (hA : ∀ q : Nat, s.heap.size ≤ q → A q) (hbL : b ∈ L) {ci : Nat} {fs : List Value} {T : u_T} {N : Nat} (hfb : f b = .inr (ci, fs)) (hc : vwCl[ci]? = some (C, T, N)) (hn : As.length = n) (hsize : ls.size = nL) (hst : st0 = As.reverse ++ .ref b :: rest) (hW : (rest.map fun v => v.category).sum ≤ 8) (hdg : decode cc pc = .ok (.invokevirtual index, 3)) (hcs : cells ≤ R.cells ∧ slots ≤ R.slots)
    (kk : ∀ (r : UInt64) (f2 : Nat → va_E) (H1 : Heap) (locs1 : List Loc), post r f2 → ww G dA A s L f2 H1 locs1 → W p l e R s m args below meth c H1 locs1 cells slots Q (F0 m (pc + 3) ls (.double r :: rest))) : W p l e R s m args below meth c H locs cells slots Q (F0 m pc ls st0) := by
  have hF := hw.free hA
  obtain ⟨q, hq⟩ := pl_get (f := f) hbL
  rw [hfb] at hq
  have hrecv := va_recv hw.1 hw.2.1 hc hq
  refine va_calld (va_runV (As := As) (rest := rest) S (hM H.size) cw ⟨wPre.blind, hrecv, fun U hU hW => ⟨rfl, by rw [hU], by rw [hU]; exact hw.2.1, va_K.moved hW.alike hw.1, hw.2.2.1.weaken (fun _ _ _ _ => trivial)⟩⟩ rfl hn hsize hst (lv_room hW) hdg hcs) hw.2.2.2 (fun q _ h => hF q h) hF (fun r f2 t H1 locs1 ht hvm hp hB _ _ hS => kk r f2 H1 locs1 hp ⟨hw.1, ?_, hB.2.2.weaken (fun _ q _ h => hF q.1 h), hS⟩)
  rw [← ht]; exact hB.1
theorem kS_D {post : UInt64 → (Nat → va_E) → Prop} (S : CallFix p m c cc nL s args Ts own) (hM : mD l y ws rm G dA As L f post) (cw : CallB R s args own index y bytes maxL ret ws rm 0 0 n ∧ (Cond.static y).before args s = true) (hw : ww G dA A s L f H locs) (hA : ∀ q : Nat, s.heap.size ≤ q → A q) (hn : As.length = n) (hsize : ls.size = nL) (hst : st0 = As.reverse ++ rest) (hW : (rest.map fun v => v.category).sum ≤ 8) (hdg : decode cc pc = .ok (.invokestatic index, 3)) (hcs : cells ≤ R.cells ∧ slots ≤ R.slots)
    (kk : ∀ (r : UInt64) (f2 : Nat → va_E) (H1 : Heap) (locs1 : List Loc), post r f2 → ww G dA A s L f2 H1 locs1 → W p l e R s m args below meth c H1 locs1 cells slots Q (F0 m (pc + 3) ls (.double r :: rest))) : W p l e R s m args below meth c H locs cells slots Q (F0 m pc ls st0) := by
  have hF := hw.free hA
  refine va_calld (va_runS (As := As) (rest := rest) S (hM H.size) cw ⟨wPre.blind, fun U hU hW => ⟨rfl, by rw [hU], by rw [hU]; exact hw.2.1, va_K.moved hW.alike hw.1, hw.2.2.1.weaken (fun _ _ _ _ => trivial)⟩⟩ rfl hn hsize hst (lv_room hW) hdg hcs) hw.2.2.2 (fun q _ h => hF q h) hF (fun r f2 t H1 locs1 ht hvm hp hB _ _ hS => kk r f2 H1 locs1 hp ⟨hw.1, ?_, hB.2.2.weaken (fun _ q _ h => hF q.1 h), hS⟩)
  rw [← ht]; exact hB.1
theorem kV_I {post : Int32 → (Nat → va_E) → Prop} (S : CallFix p m c cc nL s args Ts own) (hM : mI l y ws rm G dA (.ref b :: As) L f post) (cw : CallW R s args own C index y bytes maxL ret ws rm 0 0 n) (hw : ww G dA A s L f H locs) (hA : ∀ q : Nat, s.heap.size ≤ q → A q) (hbL : b ∈ L) {ci : Nat} {fs : List Value} {T : u_T} {N : Nat} (hfb : f b = .inr (ci, fs)) (hc : vwCl[ci]? = some (C, T, N)) (hn : As.length = n) (hsize : ls.size = nL) (hst : st0 = As.reverse ++ .ref b :: rest) (hW : (rest.map fun v => v.category).sum ≤ 8) (hdg : decode cc pc = .ok (.invokevirtual index, 3)) (hcs : cells ≤ R.cells ∧ slots ≤ R.slots)
    (kk : ∀ (r : Int32) (f2 : Nat → va_E) (H1 : Heap) (locs1 : List Loc), post r f2 → ww G dA A s L f2 H1 locs1 → W p l e R s m args below meth c H1 locs1 cells slots Q (F0 m (pc + 3) ls (.int r :: rest))) : W p l e R s m args below meth c H locs cells slots Q (F0 m pc ls st0) := by
  have hF := hw.free hA
  obtain ⟨q, hq⟩ := pl_get (f := f) hbL
  rw [hfb] at hq
  have hrecv := va_recv hw.1 hw.2.1 hc hq
  refine va_calli (va_runV (As := As) (rest := rest) S (hM H.size) cw ⟨wPre.blind, hrecv, fun U hU hW => ⟨rfl, by rw [hU], by rw [hU]; exact hw.2.1, va_K.moved hW.alike hw.1, hw.2.2.1.weaken (fun _ _ _ _ => trivial)⟩⟩ rfl hn hsize hst (lv_room hW) hdg hcs) hw.2.2.2 (fun q _ h => hF q h) hF (fun r f2 t H1 locs1 ht hvm hp hB _ _ hS => kk r f2 H1 locs1 hp ⟨hw.1, ?_, hB.2.2.weaken (fun _ q _ h => hF q.1 h), hS⟩)
  rw [← ht]; exact hB.1
theorem kS_I {post : Int32 → (Nat → va_E) → Prop} (S : CallFix p m c cc nL s args Ts own) (hM : mI l y ws rm G dA As L f post) (cw : CallB R s args own index y bytes maxL ret ws rm 0 0 n ∧ (Cond.static y).before args s = true) (hw : ww G dA A s L f H locs) (hA : ∀ q : Nat, s.heap.size ≤ q → A q) (hn : As.length = n) (hsize : ls.size = nL) (hst : st0 = As.reverse ++ rest) (hW : (rest.map fun v => v.category).sum ≤ 8) (hdg : decode cc pc = .ok (.invokestatic index, 3)) (hcs : cells ≤ R.cells ∧ slots ≤ R.slots)
    (kk : ∀ (r : Int32) (f2 : Nat → va_E) (H1 : Heap) (locs1 : List Loc), post r f2 → ww G dA A s L f2 H1 locs1 → W p l e R s m args below meth c H1 locs1 cells slots Q (F0 m (pc + 3) ls (.int r :: rest))) : W p l e R s m args below meth c H locs cells slots Q (F0 m pc ls st0) := by
  have hF := hw.free hA
  refine va_calli (va_runS (As := As) (rest := rest) S (hM H.size) cw ⟨wPre.blind, fun U hU hW => ⟨rfl, by rw [hU], by rw [hU]; exact hw.2.1, va_K.moved hW.alike hw.1, hw.2.2.1.weaken (fun _ _ _ _ => trivial)⟩⟩ rfl hn hsize hst (lv_room hW) hdg hcs) hw.2.2.2 (fun q _ h => hF q h) hF (fun r f2 t H1 locs1 ht hvm hp hB _ _ hS => kk r f2 H1 locs1 hp ⟨hw.1, ?_, hB.2.2.weaken (fun _ q _ h => hF q.1 h), hS⟩)
  rw [← ht]; exact hB.1
theorem kV_L {post : Int64 → (Nat → va_E) → Prop} (S : CallFix p m c cc nL s args Ts own) (hM : mL l y ws rm G dA (.ref b :: As) L f post) (cw : CallW R s args own C index y bytes maxL ret ws rm 0 0 n) (hw : ww G dA A s L f H locs) (hA : ∀ q : Nat, s.heap.size ≤ q → A q) (hbL : b ∈ L) {ci : Nat} {fs : List Value} {T : u_T} {N : Nat} (hfb : f b = .inr (ci, fs)) (hc : vwCl[ci]? = some (C, T, N)) (hn : As.length = n) (hsize : ls.size = nL) (hst : st0 = As.reverse ++ .ref b :: rest) (hW : (rest.map fun v => v.category).sum ≤ 8) (hdg : decode cc pc = .ok (.invokevirtual index, 3)) (hcs : cells ≤ R.cells ∧ slots ≤ R.slots)
    (kk : ∀ (r : Int64) (f2 : Nat → va_E) (H1 : Heap) (locs1 : List Loc), post r f2 → ww G dA A s L f2 H1 locs1 → W p l e R s m args below meth c H1 locs1 cells slots Q (F0 m (pc + 3) ls (.long r :: rest))) : W p l e R s m args below meth c H locs cells slots Q (F0 m pc ls st0) := by
  have hF := hw.free hA
  obtain ⟨q, hq⟩ := pl_get (f := f) hbL
  rw [hfb] at hq
  have hrecv := va_recv hw.1 hw.2.1 hc hq
  refine va_calll (va_runV (As := As) (rest := rest) S (hM H.size) cw ⟨wPre.blind, hrecv, fun U hU hW => ⟨rfl, by rw [hU], by rw [hU]; exact hw.2.1, va_K.moved hW.alike hw.1, hw.2.2.1.weaken (fun _ _ _ _ => trivial)⟩⟩ rfl hn hsize hst (lv_room hW) hdg hcs) hw.2.2.2 (fun q _ h => hF q h) hF (fun r f2 t H1 locs1 ht hvm hp hB _ _ hS => kk r f2 H1 locs1 hp ⟨hw.1, ?_, hB.2.2.weaken (fun _ q _ h => hF q.1 h), hS⟩)
  rw [← ht]; exact hB.1
theorem kS_L {post : Int64 → (Nat → va_E) → Prop} (S : CallFix p m c cc nL s args Ts own) (hM : mL l y ws rm G dA As L f post) (cw : CallB R s args own index y bytes maxL ret ws rm 0 0 n ∧ (Cond.static y).before args s = true) (hw : ww G dA A s L f H locs) (hA : ∀ q : Nat, s.heap.size ≤ q → A q) (hn : As.length = n) (hsize : ls.size = nL) (hst : st0 = As.reverse ++ rest) (hW : (rest.map fun v => v.category).sum ≤ 8) (hdg : decode cc pc = .ok (.invokestatic index, 3)) (hcs : cells ≤ R.cells ∧ slots ≤ R.slots)
    (kk : ∀ (r : Int64) (f2 : Nat → va_E) (H1 : Heap) (locs1 : List Loc), post r f2 → ww G dA A s L f2 H1 locs1 → W p l e R s m args below meth c H1 locs1 cells slots Q (F0 m (pc + 3) ls (.long r :: rest))) : W p l e R s m args below meth c H locs cells slots Q (F0 m pc ls st0) := by
  have hF := hw.free hA
  refine va_calll (va_runS (As := As) (rest := rest) S (hM H.size) cw ⟨wPre.blind, fun U hU hW => ⟨rfl, by rw [hU], by rw [hU]; exact hw.2.1, va_K.moved hW.alike hw.1, hw.2.2.1.weaken (fun _ _ _ _ => trivial)⟩⟩ rfl hn hsize hst (lv_room hW) hdg hcs) hw.2.2.2 (fun q _ h => hF q h) hF (fun r f2 t H1 locs1 ht hvm hp hB _ _ hS => kk r f2 H1 locs1 hp ⟨hw.1, ?_, hB.2.2.weaken (fun _ q _ h => hF q.1 h), hS⟩)
  rw [← ht]; exact hB.1
theorem kV_V {post : (Nat → va_E) → Prop} (S : CallFix p m c cc nL s args Ts own) (hM : mV l y ws rm G dA (.ref b :: As) L f post) (cw : CallW R s args own C index y bytes maxL ret ws rm 0 0 n) (hw : ww G dA A s L f H locs) (hA : ∀ q : Nat, s.heap.size ≤ q → A q) (hbL : b ∈ L) {ci : Nat} {fs : List Value} {T : u_T} {N : Nat} (hfb : f b = .inr (ci, fs)) (hc : vwCl[ci]? = some (C, T, N)) (hn : As.length = n) (hsize : ls.size = nL) (hst : st0 = As.reverse ++ .ref b :: rest) (hW : (rest.map fun v => v.category).sum ≤ 8) (hdg : decode cc pc = .ok (.invokevirtual index, 3)) (hcs : cells ≤ R.cells ∧ slots ≤ R.slots)
    (kk : ∀ (f2 : Nat → va_E) (H1 : Heap) (locs1 : List Loc), post f2 → ww G dA A s L f2 H1 locs1 → W p l e R s m args below meth c H1 locs1 cells slots Q (F0 m (pc + 3) ls (rest))) : W p l e R s m args below meth c H locs cells slots Q (F0 m pc ls st0) := by
  have hF := hw.free hA
  obtain ⟨q, hq⟩ := pl_get (f := f) hbL
  rw [hfb] at hq
  have hrecv := va_recv hw.1 hw.2.1 hc hq
  refine va_callv (va_runV (As := As) (rest := rest) S (hM H.size) cw ⟨wPre.blind, hrecv, fun U hU hW => ⟨rfl, by rw [hU], by rw [hU]; exact hw.2.1, va_K.moved hW.alike hw.1, hw.2.2.1.weaken (fun _ _ _ _ => trivial)⟩⟩ rfl hn hsize hst (lv_room hW) hdg hcs) hw.2.2.2 (fun q _ h => hF q h) hF (fun f2 t H1 locs1 ht hvm hp hB _ _ hS => kk f2 H1 locs1 hp ⟨hw.1, ?_, hB.2.2.weaken (fun _ q _ h => hF q.1 h), hS⟩)
  rw [← ht]; exact hB.1
theorem kS_V {post : (Nat → va_E) → Prop} (S : CallFix p m c cc nL s args Ts own) (hM : mV l y ws rm G dA As L f post) (cw : CallB R s args own index y bytes maxL ret ws rm 0 0 n ∧ (Cond.static y).before args s = true) (hw : ww G dA A s L f H locs) (hA : ∀ q : Nat, s.heap.size ≤ q → A q) (hn : As.length = n) (hsize : ls.size = nL) (hst : st0 = As.reverse ++ rest) (hW : (rest.map fun v => v.category).sum ≤ 8) (hdg : decode cc pc = .ok (.invokestatic index, 3)) (hcs : cells ≤ R.cells ∧ slots ≤ R.slots)
    (kk : ∀ (f2 : Nat → va_E) (H1 : Heap) (locs1 : List Loc), post f2 → ww G dA A s L f2 H1 locs1 → W p l e R s m args below meth c H1 locs1 cells slots Q (F0 m (pc + 3) ls (rest))) : W p l e R s m args below meth c H locs cells slots Q (F0 m pc ls st0) := by
  have hF := hw.free hA
  refine va_callv (va_runS (As := As) (rest := rest) S (hM H.size) cw ⟨wPre.blind, fun U hU hW => ⟨rfl, by rw [hU], by rw [hU]; exact hw.2.1, va_K.moved hW.alike hw.1, hw.2.2.1.weaken (fun _ _ _ _ => trivial)⟩⟩ rfl hn hsize hst (lv_room hW) hdg hcs) hw.2.2.2 (fun q _ h => hF q h) hF (fun f2 t H1 locs1 ht hvm hp hB _ _ hS => kk f2 H1 locs1 hp ⟨hw.1, ?_, hB.2.2.weaken (fun _ q _ h => hF q.1 h), hS⟩)
  rw [← ht]; exact hB.1
end WEND
