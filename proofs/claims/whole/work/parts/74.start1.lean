/-! ===== the law's start ===== -/
theorem mem_of_pl {L : List Nat} {f : Nat → va_E} {i b : Nat} {e : va_E} (h : (va_pl L f)[i]? = some (b, e)) : b ∈ L := by
  unfold va_pl at h
  rw [List.getElem?_map] at h
  cases h1 : L[i]? with
  | none => rw [h1] at h; cases h
  | some a => rw [h1] at h; cases h; exact List.mem_of_getElem? h1
def cellV (xs : Nat → Int32) (Ls k : Nat) : Int32 := if k < Ls then xs k else 0
def cE (b Ls : Nat) (xs : Nat → Int32) (L : List Nat) (U : State) : Prop := va_X b Ls xs U U.heap ∧ b < U.heap.size ∧ b ∉ L
set_option maxHeartbeats 4000000 in
theorem c_cell (l : Launch) (G : va_G) (dA : Nat → ClassId) (L : List Nat) (f : Nat → va_E) (b Ls k : Nat) (xs : Nat → Int32) (hk : k < 2 ^ 31) (hLs : Ls < 2 ^ 31) : ∀ sz : Nat, Met l yL_cell wsL_cell ({ frames := 0, cells := 0, slots := 0, locals := 0 }) (va_Pc [.ref b, .int (nI k)] (fun U => wPre G dA L f sz U ∧ cE b Ls xs L U)) (va_Qi (fun r f2 => r = cellV xs Ls k ∧ f2 = f) (wPost G dA L (va_A (va_pl L f) sz)) (va_A (va_pl L f) sz)) 0 0 (va_A (va_pl L f) sz) := by
  intro sz
  refine Met.ofW (cc := cL_cell) (maxL := 2) (ret := some .int) (by decide) rfl ?_
  intro p e s m args below meth c s₁ B hml hv
  obtain ⟨rfl, ⟨hsz, hP, hK, hD0⟩, hX, hbl, hbL⟩ := hv
  have hx := B.exec
  have hb := B.bytes
  have hlocks := B.notSynchronized
  have hl := lv_entry [.ref b, .int (nI k)] (n := 2) (Nat.le_of_ble_eq_true rfl)
  rw [lg_entry_eq]
  generalize (lg_sl [Value.ref b, .int (nI k)] ++ List.replicate (2 - (lg_sl [Value.ref b, .int (nI k)]).length) Slot.unset).toArray = ls at hl ⊢
  have hl : lv_has ls 2 [(0, .ref b), (1, .int (nI k))] := hl
  subst hsz
  have hD := hD0.self (sz := s.heap.size)
  have hbA : ¬ va_A (va_pl L f) s.heap.size b := by
    rintro (⟨i, e, h⟩ | h)
    · exact hbL (mem_of_pl h)
    · omega
  have hS : va_S (va_A (va_pl L f) s.heap.size) s.heap s.heap [] := va_S.rf
  refine lv_iload_n hx hb dL_cell_0 rfl (lv_at hl 1 rfl) ?_
  refine lv_aload_n hx hb dL_cell_1 rfl (lv_at hl 0 rfl) ?_
  refine va_slen hx hb hX hbl hbA hS dL_cell_2 ?_
  refine lv_icmp_ge (tgt := 12) hx hb dL_cell_3 (by decide) (fun c3 => ?_) (fun c3 => ?_)
  · refine lv_iconst (v := 0) hx hb dL_cell_12 (by decide) ?_
    exact W.zret hx hb B.returns rfl (fun t ht hW => ⟨⟨0, f, rfl, ⟨(if_neg (Nat.not_lt.mpr ((nI_leI hLs hk).mp c3))).symm, rfl⟩, by rw [ht]; exact hP, va_K.moved hW.alike hK, hD⟩, hS.F ht⟩) hS.2.2 dL_cell_13 hlocks
  · have hlt : k < Ls := Nat.lt_of_not_le fun h => c3 ((nI_leI hLs hk).mpr h)
    refine lv_aload_n hx hb dL_cell_6 rfl (lv_at hl 0 rfl) ?_
    refine lv_iload_n hx hb dL_cell_7 rfl (lv_at hl 1 rfl) ?_
    refine va_sld hx hb hX hbl hbA hS (vp_in_nI hlt hLs) dL_cell_8 ?_
    rw [nI_clamp hk]
    refine lv_goto (tgt := 13) hx hb dL_cell_9 (by decide) ?_
    exact W.zret hx hb B.returns rfl (fun t ht hW => ⟨⟨xs k, f, rfl, ⟨(if_pos hlt).symm, rfl⟩, by rw [ht]; exact hP, va_K.moved hW.alike hK, hD⟩, hS.F ht⟩) hS.2.2 dL_cell_13 hlocks
section CCALL
variable {p : Program} {l : Launch} {e : Env} {R : Room} {s : State} {m : MethodId} {args : Array Value} {below : List Frame} {meth : Method} {c : Code} {H : Heap} {locs : List Loc} {cells slots : Nat} {Q : State → Prop}
variable {cc : ByteArray} {pc : Nat} {ls : Array Slot} {rest : List Value} {G : va_G} {dA : Nat → ClassId} {A : Nat → Prop} {L : List Nat} {f : Nat → va_E} {b Ls k nL n index maxL : Nat} {xs : Nat → Int32} {bytes : ByteArray} {ret : Option FieldType} {ws Ts : List Cond} {own : String} {st0 : List Value}
theorem kCell (S : CallFix p m c cc nL s args Ts own) (hk : k < 2 ^ 31) (hLs : Ls < 2 ^ 31) (cw : CallB R s args own index yL_cell bytes maxL ret wsL_cell { frames := 0, cells := 0, slots := 0, locals := 0 } 0 0 2 ∧ (Cond.static yL_cell).before args s = true) (hw : ww G dA A s L f H locs) (hA : ∀ q : Nat, s.heap.size ≤ q → A q) (hXs : va_X b Ls xs s s.heap) (hbl : b < s.heap.size) (hbA : ¬ A b) (hsize : ls.size = nL) (hst : st0 = .int (nI k) :: .ref b :: rest) (hW : (rest.map fun v => v.category).sum ≤ 8) (hdg : decode cc pc = .ok (.invokestatic index, 3)) (hcs : cells ≤ R.cells ∧ slots ≤ R.slots)
    (kk : ∀ (H1 : Heap) (locs1 : List Loc), ww G dA A s L f H1 locs1 → W p l e R s m args below meth c H1 locs1 cells slots Q (F0 m (pc + 3) ls (.int (cellV xs Ls k) :: rest))) : W p l e R s m args below meth c H locs cells slots Q (F0 m pc ls st0) := by
  have hF := hw.free hA
  have hbL : b ∉ L := fun h => by
    obtain ⟨i, hi⟩ := pl_get (f := f) h
    exact hbA (hw.2.2.1.2 i _ hi)
  refine va_calli (va_runS (As := [.ref b, .int (nI k)]) (rest := rest) S (c_cell l G dA L f b Ls k xs hk hLs H.size) cw ⟨fun a U g mk q => ?_, fun U hU hW => ⟨rfl, ⟨by rw [hU], by rw [hU]; exact hw.2.1, va_K.moved hW.alike hw.1, hw.2.2.1.weaken (fun _ _ _ _ => trivial)⟩, (hXs.moved hW.alike).kept (by rw [hU]; exact hw.2.2.2.2.1 b hbl hbA), by rw [hU]; exact Nat.lt_of_lt_of_le hbl hw.2.2.2.1, hbL⟩⟩ rfl rfl hsize hst (lv_room hW) hdg hcs) hw.2.2.2 (fun q _ h => hF q h) hF (fun r f2 t H1 locs1 ht hvm hp hB _ _ hS => ?_)
  · obtain ⟨q0, ⟨q1, qP, qK, qD⟩, qX, qb, qL⟩ := q
    exact ⟨q0, ⟨q1, qP, va_K.moved (u := U) (U := U.calling g mk a) (Vm.Alike.refl U.vm) qK, qD⟩, va_X.moved (u := U) (U := U.calling g mk a) (Vm.Alike.refl U.vm) qX, qb, qL⟩
  · obtain ⟨e1, e2⟩ := hp
    rw [e1]
    rw [e2] at hB
    exact kk H1 locs1 ⟨hw.1, by rw [← ht]; exact hB.1, hB.2.2.weaken (fun _ q _ h => hF q.1 h), hS⟩
end CCALL
/-! the classes at the start -/
theorem arr_of {ty : FieldType} {args : Array Value} {s : State} (h : (Cond.arrayClass ty).before args s = true) : ∃ cA : ClassId, ArrOfT s cA ty ∧ s.vm.findClass ("[" ++ ty.toString) = some cA := by
  obtain ⟨c, k, comp, h1, h2, h3⟩ := Cond.arrayClass_spec h
  exact ⟨c, fun N z => ⟨(fun k h => by cases h), k, h2, comp, h3⟩, h1⟩
theorem arr_ofQ {C : String} {s : State} (h : va_AO C s) : ∃ cA : ClassId, ArrOfT s cA (.object C) ∧ va_RA s cA (.object C) := by
  obtain ⟨comp, c, k, h1, h2, h3, h4, h5⟩ := Cond.arrayOver_spec h
  exact ⟨c, fun N z => ⟨(fun k h => by cases h), k, h3, comp, h4⟩, k, comp, h3, h4, h1, h5⟩
/-! places in the pool -/
def pm (nb i : Nat) : Nat := if i = 0 then 0 else if i = 1 then 6 else if i = 2 then 1 else if i < 12 then i + 4 + 2 * nb else if i < 16 then i - 10 else if i < 34 then i + 2 * nb else i - 27
theorem pm_inj {nb i j : Nat} (hi : i < 34 + 2 * nb) (hj : j < 34 + 2 * nb) (h : pm nb i = pm nb j) : i = j := by
  unfold pm at h
  repeat' (split at h)
  all_goals omega
theorem pm_lt {nb i : Nat} (hi : i < 34 + 2 * nb) : pm nb i < 34 + 2 * nb := by
  unfold pm
  repeat' split
  all_goals omega
theorem nodup_getD {l : List Nat} (h : l.Nodup) {i j : Nat} (hi : i < l.length) (hj : j < l.length) (e : l.getD i 0 = l.getD j 0) : i = j := by
  rw [List.getD_eq_getElem?_getD, List.getD_eq_getElem?_getD, List.getElem?_eq_getElem hi, List.getElem?_eq_getElem hj] at e
  have e : l[i] = l[j] := e
  rcases Nat.lt_trichotomy i j with q | q | q
  · exact absurd e (List.pairwise_iff_getElem.mp h i j hi hj q)
  · exact q
  · exact absurd e.symm (List.pairwise_iff_getElem.mp h j i hj hi q)
def adL (nb : Nat) (l : List Nat) (i : Nat) : Nat := l.getD (pm nb i) 0
section ADL
variable {nb : Nat} {pre bl suf : List Nat}
theorem adL_p (hp : pre.length = 7) {i k : Nat} (hk : k < 7) (h : pm nb i = k) : adL nb (pre ++ bl ++ suf) i = pre.getD k 0 := by
  unfold adL; rw [h, List.append_assoc, gD_l (by omega)]
theorem adL_b (hp : pre.length = 7) (hb : bl.length = 2 * nb) {i k : Nat} (hk : k < 2 * nb) (h : pm nb i = 7 + k) : adL nb (pre ++ bl ++ suf) i = bl.getD k 0 := by
  unfold adL; rw [h, List.append_assoc, gD_r (by omega), gD_l (by omega), hp, show 7 + k - 7 = k by omega]
theorem adL_s (hp : pre.length = 7) (hb : bl.length = 2 * nb) {i k : Nat} (h : pm nb i = 7 + 2 * nb + k) : adL nb (pre ++ bl ++ suf) i = suf.getD k 0 := by
  unfold adL; rw [h, gD_r (by rw [List.length_append]; omega), List.length_append, hp, hb, show 7 + 2 * nb + k - (7 + 2 * nb) = k by omega]
end ADL
theorem pm_f {nb i : Nat} (h1 : 3 ≤ i) (h2 : i < 12) : pm nb i = 7 + 2 * nb + (i - 3) := by
  unfold pm; repeat' split
  all_goals omega
theorem pm_g {nb i : Nat} (h1 : 16 ≤ i) (h2 : i < 34) : pm nb i = 7 + 2 * nb + (i - 7) := by
  unfold pm; repeat' split
  all_goals omega
theorem pm_k {nb j : Nat} (h : j < 4) : pm nb (12 + j) = 2 + j := by
  unfold pm; repeat' split
  all_goals omega
theorem pm_bd {nb j : Nat} : pm nb (34 + 2 * j) = 7 + 2 * j ∧ pm nb (35 + 2 * j) = 7 + (2 * j + 1) := by
  constructor <;> (unfold pm; repeat' split) <;> omega
/-! the state at the start is good -/
theorem k_293 : Nn 4643862126702624768 ∧ Zm 4643862126702624768 = 293 * 2 ^ 1074 := ⟨⟨fin_c (by decide), by decide +kernel⟩, by decide +kernel⟩
theorem k_half : Nn 4602678819172646912 ∧ Zm 4602678819172646912 = 2 ^ 1073 := ⟨⟨fin_c (by decide), by decide +kernel⟩, by decide +kernel⟩
def x00 : sR := ((4643862126702624768, 4602678819172646912, FP.dconst1, FP.dconst0), (0, 0), (fun _ => (0, 0, 0, 0, 0, 0)), (fun _ _ => 0), (0, 0, (fun _ => 0), (fun _ => 0), (fun _ => 0), (fun _ => 0)), 0)
theorem GR_00 (nl nb : Nat) : GR nl nb (fun _ => (0, 0)) x00 := by
  refine ⟨⟨⟨(kp k_293).mono (by decide +kernel), by show 250 * 2 ^ 1074 ≤ Zm 4643862126702624768; rw [k_293.2]; decide +kernel⟩, (kp k_half).mono (by decide +kernel), (kp k_1).mono (by decide +kernel), (kp k_0).mono (Nat.zero_le _)⟩, ((kp k_0).mono (Nat.zero_le _)).ab, fun j hj => ⟨by show 0 < 4; decide, fun h => absurd rfl h⟩, GP_0 _ _ _ _, fun j hj => ⟨(kp k_0).mono (Nat.zero_le _), (kp k_0).mono (Nat.zero_le _)⟩⟩

set_option maxRecDepth 20000 in
theorem exIn0 : ∀ w ∈ exW 0, w ∈ lw_tbl := by decide +kernel
set_option maxRecDepth 20000 in
theorem exIn1 : ∀ w ∈ exW 1, w ∈ lw_tbl := by decide +kernel
set_option maxRecDepth 20000 in
theorem exIn2 : ∀ w ∈ exW 2, w ∈ lw_tbl := by decide +kernel
set_option maxRecDepth 20000 in
theorem lkIn : ∀ w ∈ lkW, w ∈ lw_tbl := by decide +kernel
