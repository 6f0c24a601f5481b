set_option maxHeartbeats 8000000 in
set_option maxRecDepth 100000 in
theorem law_mid {p : Program} {l : Launch} {e : Env} {s : State} {m : MethodId} {below : List Frame} {meth : Method} {c : Code} {G : va_G} {dA : Nat → ClassId} {b Ls : Nat} {xs : Nat → Int32} {sa : Nat → Nat} (hx : p.tables.exec = Jvm.exec) (hb : c.code = cL_law) (hml : c.maxLocals = 10) (hown : s.vm.findClass RL = some m.cls) (hts : ∀ w ∈ wsL_law, w.before #[Value.ref b] s = true) (hXs : va_X b Ls xs s s.heap) (hbl : b < s.heap.size) (hlt : l.stackTraces = false) (hE9 : wEnvL (fun z : Nat => s.heap.size ≤ z) sa s s.heap) (hLs : Ls ≤ 2562) (hr9 : meth.sig.returnType = ret) (hlocks : meth.locks = false)
    {L : List Nat} {f : Nat → va_E} {H : Heap} {locs : List Loc} {ls : Array Slot} {x ks k0 k1 k2 k3 bs ar le tx u9 pl pb pt pk pd : Nat} {bl : List Nat} {qk qb : Nat → Option Nat} {n nb : Nat} (en : n = clN 16 (cellV xs Ls 0)) (eb : nb = clN 8 (cellV xs Ls 1)) (eLs : L = [x] ++ [ks, k0, k1, k2, k3, bs] ++ bl ++ [ar, le, tx, u9, pl, pb, pt, pk, pd]) (hbl9 : bl.length = 2 * nb) (hq4 : qk 0 = some k0 ∧ qk 1 = some k1 ∧ qk 2 = some k2 ∧ qk 3 = some k3) (hqb : ∀ j, j < nb → qb j = some (bl.getD (2 * j) 0))
    (hX0 : f x = .inr (7, [.int (nI n), .ref bs, .ref ks, .ref ar, .ref le, .ref tx, .ref pl, .int 0])) (hXks : f ks = aQ (dA 6) 4 qk) (hXbs : f bs = aQ (dA 5) nb qb) (hXk : f k0 = .inr (3, [.double 0, .double 0]) ∧ f k1 = .inr (3, [.double 0, .double 0]) ∧ f k2 = .inr (3, [.double 0, .double 0]) ∧ f k3 = .inr (3, [.double 0, .double 0])) (hXbd : ∀ j, j < nb → f (bl.getD (2 * j) 0) = .inr (2, [.ref (bl.getD (2 * j + 1) 0), .ref k0, .int 0, .double 0, .int 0, .double 0, .int 0]) ∧ f (bl.getD (2 * j + 1) 0) = aD (dA 1) n (fun _ => 0))
    (hXar : f ar = .inr (1, [.double 4643862126702624768, .double 4602678819172646912, .double FP.dconst1, .double FP.dconst0])) (hXle : f le = .inr (4, [.double 0, .long 0])) (hXtx : f tx = .inr (6, [.ref u9, .int 0, .int 0])) (hXu9 : f u9 = aI (dA 0) 200 (fun _ => 0)) (hXpl : f pl = .inr (5, [.ref pb, .ref pt, .ref pk, .ref pd, .int 0, .int 0])) (hXpb : f pb = aI (dA 3) 12 (fun _ => 0)) (hXpt : f pt = aI (dA 2) 12 (fun _ => 0)) (hXpk : f pk = aI (dA 2) 12 (fun _ => 0)) (hXpd : f pd = aI (dA 2) 12 (fun _ => 0))
    (hw : ww G dA (fun z : Nat => s.heap.size ≤ z) s L f H locs) (hl : lv_has ls 10 [(0, .ref b)]) : W p l e room_1 s m #[Value.ref b] below meth c H locs 32 475 (lw_Z below #[Value.ref b] s) (F0 m 17 ls [.ref x]) := by
  obtain ⟨A, hAe⟩ : ∃ A : Nat → Prop, A = (fun z : Nat => s.heap.size ≤ z) := ⟨_, rfl⟩
  rw [← hAe] at hw
  have hA : ∀ z : Nat, s.heap.size ≤ z → A z := fun _ h => by rw [hAe]; exact h
  have hbA : ¬ A b := by rw [hAe]; exact Nat.not_le.mpr hbl
  have hLs31 : Ls < 2 ^ 31 := by omega
  have hsub0 : ∀ z, z ∈ L → z ∈ L := fun _ h => h
  have hfr0 : ∀ z, z ∈ L → z ≠ b → f z = f z := fun _ _ _ => rfl
  refine lv_astore_n (lv' := [(1, .ref x), (0, .ref b)]) hx hb dL_law_17 rfl hl (by decide) rfl (fun ls hl => ?_)
  refine wnew (C := RX7) (T := TX7) (N := 31) (ci := 8) (fs := [.int 0, .int 0, .int 0, .null, .null, .double 0, .double 0, .double 0, .double 0, .double 0, .long 0, .int 0, .null, .null, .null, .null, .null, .null, .null, .null, .null, .int 0, .int 0, .int 0, .int 0, .null, .null, .null, .null, .int 0, .int 0]) hx hb hts inlX7 tyX7 tyX7_ok hown (hts (.classLink RL 72 RX7) (by decide +kernel)) (hts (.instantiable RX7 31) (by decide +kernel)) (hts (.initialized RX7) (by decide +kernel)) hw hA rfl (by decide +kernel) (Nat.le_of_ble_eq_true rfl) (Nat.le_of_ble_eq_true rfl) dL_law_18 (fun m9 H hqm9 hw => ?_)
  obtain ⟨L1, eL1⟩ : ∃ z : List Nat, z = L ++ [m9] := ⟨_, rfl⟩
  obtain ⟨f2, ef2⟩ : ∃ z : Nat → va_E, z = va_up f m9 (.inr (8, [.int 0, .int 0, .int 0, .null, .null, .double 0, .double 0, .double 0, .double 0, .double 0, .long 0, .int 0, .null, .null, .null, .null, .null, .null, .null, .null, .null, .int 0, .int 0, .int 0, .int 0, .null, .null, .null, .null, .int 0, .int 0])) := ⟨_, rfl⟩
  have hw : ww G dA A s L1 f2 H locs := by rw [eL1, ef2]; exact hw
  have m3 : m9 ∈ L1 := by rw [eL1]; exact List.mem_append_right _ List.mem_cons_self
  have h4 : f2 m9 = .inr (8, [.int 0, .int 0, .int 0, .null, .null, .double 0, .double 0, .double 0, .double 0, .double 0, .long 0, .int 0, .null, .null, .null, .null, .null, .null, .null, .null, .null, .int 0, .int 0, .int 0, .int 0, .null, .null, .null, .null, .int 0, .int 0]) := by rw [ef2]; exact va_up_self _ _ _
  have ni5 : m9 ∉ L := fun h => hqm9 (hsub0 _ h)
  have hs6 : ∀ z, z ∈ L → z ∈ L1 := fun z h => by rw [eL1]; exact List.mem_append_left _ (hsub0 z h)
  have hr7 : ∀ z, z ∈ L → z ≠ b → f2 z = f z := fun z hz hb => (congrFun ef2 z).trans ((va_up_ne _ _ (fun h : z = m9 => ni5 (h ▸ hz))).trans (hfr0 z hz hb))
  refine lv_dup hx hb dL_law_21 rfl ?_
  refine lv_aload_n hx hb dL_law_22 rfl (lv_at hl 1 rfl) ?_
  refine lv_iconst (v := 0) hx hb dL_law_23 (by decide) ?_
  refine kCell (k := 0) (rest := [.ref m9, .ref m9]) ⟨hx, hb, hml, hown, hts⟩ (by decide) hLs31 (va_cwS 2 hts gL_law_L_cell rfl rfl rfl (by decide +kernel) ⟨Nat.le_of_ble_eq_true rfl, Nat.le_of_ble_eq_true rfl⟩) hw hA hXs hbl hbA hl.1 rfl (Nat.le_of_ble_eq_true rfl) dL_law_24 ⟨Nat.le_of_ble_eq_true rfl, Nat.le_of_ble_eq_true rfl⟩ (fun H locs hw => ?_)
  refine lv_aload_n hx hb dL_law_27 rfl (lv_at hl 1 rfl) ?_
  refine lv_iconst (v := 1) hx hb dL_law_28 (by decide) ?_
  refine kCell (k := 1) (rest := [.int (cellV xs Ls 0), .ref m9, .ref m9]) ⟨hx, hb, hml, hown, hts⟩ (by decide) hLs31 (va_cwS 2 hts gL_law_L_cell rfl rfl rfl (by decide +kernel) ⟨Nat.le_of_ble_eq_true rfl, Nat.le_of_ble_eq_true rfl⟩) hw hA hXs hbl hbA hl.1 rfl (Nat.le_of_ble_eq_true rfl) dL_law_29 ⟨Nat.le_of_ble_eq_true rfl, Nat.le_of_ble_eq_true rfl⟩ (fun H locs hw => ?_)
  refine kI_N (As := [.int (cellV xs Ls 0), .int (cellV xs Ls 1)]) (rest := [.ref m9]) ⟨hx, hb, hml, hown, hts⟩ (c_X7_init l G dA L1 f2 m9 (cellV xs Ls 0) (cellV xs Ls 1) m3 h4) (cwI 2 hts gL_law_X7_init rfl rfl rfl (hts (.initialized RX7) (by decide +kernel)) (hts (.methodLink RL 74 yX7_init) (by decide +kernel)) (hts (.instanceMethod yX7_init) (by decide +kernel)) rfl (by decide +kernel) ⟨Nat.le_of_ble_eq_true rfl, Nat.le_of_ble_eq_true rfl⟩) hw hA (fun _ _ => trivial) (fun _ _ _ _ _ => trivial) rfl hl.1 rfl (Nat.le_of_ble_eq_true rfl) dL_law_32 ⟨Nat.le_of_ble_eq_true rfl, Nat.le_of_ble_eq_true rfl⟩ (fun L8 f9 H locs hp hw => ?_)
  obtain ⟨aRA, aRB, aTH, aDE, aKI, aWE, aNX, aLI, aLM, aKE, aTX, aBW, aTI, aKV, aDM, eL9, hm9, hzaRA, hzaRB, hzaTH, hzaDE, hzaKI, hzaWE, hzaNX, hzaLI, hzaLM, hzaKE, hzaTX, hzaBW, hzaTI, hzaKV, hzaDM, hfr9⟩ := hp
  have eL8 : L8 = L1 ++ [aRA] ++ [aRB] ++ [aTH] ++ [aDE] ++ [aKI] ++ [aWE] ++ [aNX] ++ [aLI] ++ [aLM] ++ [aKE] ++ [aTX] ++ [aBW] ++ [aTI] ++ [aKV] ++ [aDM] := eL9
  have hsb : ∀ z, z ∈ L1 → z ∈ L8 := fun z h => by rw [eL8]; simp [h]
  have mm10 : m9 ∈ L8 := hsb _ m3
  have hm9 : f9 m9 = .inr (8, [.int 0, .int (nI (clN 16 (cellV xs Ls 0))), .int (nI (clN 8 (cellV xs Ls 1))), .ref aRA, .ref aRB, .double 4643862126702624768, .double 4602678819172646912, .double FP.dconst1, .double 0, .double 0, .long 0, .int 0, .ref aTH, .ref aDE, .ref aKI, .ref aWE, .ref aNX, .ref aLI, .ref aLM, .ref aKE, .ref aTX, .int 0, .int 0, .int 0, .int 0, .ref aBW, .ref aTI, .ref aKV, .ref aDM, .int 0, .int 0]) := hm9
  have mm11 : aRA ∈ L8 := by rw [eL8]; simp
  have hzaRA : f9 aRA = aD (dA 1) 4 (fun _ => 0) := hzaRA
  have mm12 : aRB ∈ L8 := by rw [eL8]; simp
  have hzaRB : f9 aRB = aD (dA 1) 4 (fun _ => 0) := hzaRB
  have mm13 : aTH ∈ L8 := by rw [eL8]; simp
  have hzaTH : f9 aTH = aI (dA 3) 8 (fun _ => 0) := hzaTH
  have mm14 : aDE ∈ L8 := by rw [eL8]; simp
  have hzaDE : f9 aDE = aD (dA 1) 8 (fun _ => 0) := hzaDE
  have mm15 : aKI ∈ L8 := by rw [eL8]; simp
  have hzaKI : f9 aKI = aI (dA 2) 8 (fun _ => 0) := hzaKI
  have mm16 : aWE ∈ L8 := by rw [eL8]; simp
  have hzaWE : f9 aWE = aD (dA 1) 128 (fun _ => 0) := hzaWE
  have mm17 : aNX ∈ L8 := by rw [eL8]; simp
  have hzaNX : f9 aNX = aD (dA 1) 16 (fun _ => 0) := hzaNX
  have mm18 : aLI ∈ L8 := by rw [eL8]; simp
  have hzaLI : f9 aLI = aI (dA 3) 8 (fun _ => 0) := hzaLI
  have mm19 : aLM ∈ L8 := by rw [eL8]; simp
  have hzaLM : f9 aLM = aD (dA 1) 8 (fun _ => 0) := hzaLM
  have mm20 : aKE ∈ L8 := by rw [eL8]; simp
  have hzaKE : f9 aKE = aI (dA 2) 8 (fun _ => 0) := hzaKE
  have mm21 : aTX ∈ L8 := by rw [eL8]; simp
  have hzaTX : f9 aTX = aI (dA 2) 200 (fun _ => 0) := hzaTX
  have mm22 : aBW ∈ L8 := by rw [eL8]; simp
  have hzaBW : f9 aBW = aI (dA 3) 12 (fun _ => 0) := hzaBW
  have mm23 : aTI ∈ L8 := by rw [eL8]; simp
  have hzaTI : f9 aTI = aI (dA 2) 12 (fun _ => 0) := hzaTI
  have mm24 : aKV ∈ L8 := by rw [eL8]; simp
  have hzaKV : f9 aKV = aI (dA 2) 12 (fun _ => 0) := hzaKV
  have mm25 : aDM ∈ L8 := by rw [eL8]; simp
  have hzaDM : f9 aDM = aI (dA 2) 12 (fun _ => 0) := hzaDM
  have hs26 : ∀ z, z ∈ L → z ∈ L8 := fun z h => hsb z (hs6 z h)
  have hr27 : ∀ z, z ∈ L → z ≠ b → f9 z = f z := fun z hz hb => (hfr9 z (hs6 z hz) (fun h : z = m9 => ni5 (h ▸ hz))).trans (hr7 z hz hb)
  refine lv_astore_n (lv' := [(2, .ref m9), (1, .ref x), (0, .ref b)]) hx hb dL_law_35 rfl hl (by decide) rfl (fun ls hl => ?_)
  refine lv_iconst (v := 1) hx hb dL_law_36 (by decide) ?_
  refine wnewa_long (N' := 1) hx hb (hts (.arrayClass .long) (by decide +kernel)) hw hA (by decide) (by decide) (by decide) (Nat.le_of_ble_eq_true rfl) (Nat.le_of_ble_eq_true rfl) dL_law_37 (fun o1 H hqo1 hw => ?_)
  obtain ⟨L28, eL28⟩ : ∃ z : List Nat, z = L8 ++ [o1] := ⟨_, rfl⟩
  obtain ⟨f29, ef29⟩ : ∃ z : Nat → va_E, z = va_up f9 o1 (aL (dA 4) 1 ((fun _ => 0))) := ⟨_, rfl⟩
  have hw : ww G dA A s L28 f29 H locs := by rw [eL28, ef29]; exact hw
  have nm9_o1 : m9 ≠ o1 := fun h => hqo1 (h ▸ mm10)
  have m30 : m9 ∈ L28 := by rw [eL28]; exact List.mem_append_left _ mm10
  have h31 : f29 m9 = .inr (8, [.int 0, .int (nI (clN 16 (cellV xs Ls 0))), .int (nI (clN 8 (cellV xs Ls 1))), .ref aRA, .ref aRB, .double 4643862126702624768, .double 4602678819172646912, .double FP.dconst1, .double 0, .double 0, .long 0, .int 0, .ref aTH, .ref aDE, .ref aKI, .ref aWE, .ref aNX, .ref aLI, .ref aLM, .ref aKE, .ref aTX, .int 0, .int 0, .int 0, .int 0, .ref aBW, .ref aTI, .ref aKV, .ref aDM, .int 0, .int 0]) := by rw [ef29, va_up_ne _ _ nm9_o1]; exact hm9
  have naRA_o1 : aRA ≠ o1 := fun h => hqo1 (h ▸ mm11)
  have m32 : aRA ∈ L28 := by rw [eL28]; exact List.mem_append_left _ mm11
  have h33 : f29 aRA = aD (dA 1) 4 (fun _ => 0) := by rw [ef29, va_up_ne _ _ naRA_o1]; exact hzaRA
  have naRB_o1 : aRB ≠ o1 := fun h => hqo1 (h ▸ mm12)
  have m34 : aRB ∈ L28 := by rw [eL28]; exact List.mem_append_left _ mm12
  have h35 : f29 aRB = aD (dA 1) 4 (fun _ => 0) := by rw [ef29, va_up_ne _ _ naRB_o1]; exact hzaRB
  have naTH_o1 : aTH ≠ o1 := fun h => hqo1 (h ▸ mm13)
  have m36 : aTH ∈ L28 := by rw [eL28]; exact List.mem_append_left _ mm13
  have h37 : f29 aTH = aI (dA 3) 8 (fun _ => 0) := by rw [ef29, va_up_ne _ _ naTH_o1]; exact hzaTH
  have naDE_o1 : aDE ≠ o1 := fun h => hqo1 (h ▸ mm14)
  have m38 : aDE ∈ L28 := by rw [eL28]; exact List.mem_append_left _ mm14
  have h39 : f29 aDE = aD (dA 1) 8 (fun _ => 0) := by rw [ef29, va_up_ne _ _ naDE_o1]; exact hzaDE
  have naKI_o1 : aKI ≠ o1 := fun h => hqo1 (h ▸ mm15)
  have m40 : aKI ∈ L28 := by rw [eL28]; exact List.mem_append_left _ mm15
  have h41 : f29 aKI = aI (dA 2) 8 (fun _ => 0) := by rw [ef29, va_up_ne _ _ naKI_o1]; exact hzaKI
  have naWE_o1 : aWE ≠ o1 := fun h => hqo1 (h ▸ mm16)
  have m42 : aWE ∈ L28 := by rw [eL28]; exact List.mem_append_left _ mm16
  have h43 : f29 aWE = aD (dA 1) 128 (fun _ => 0) := by rw [ef29, va_up_ne _ _ naWE_o1]; exact hzaWE
  have naNX_o1 : aNX ≠ o1 := fun h => hqo1 (h ▸ mm17)
  have m44 : aNX ∈ L28 := by rw [eL28]; exact List.mem_append_left _ mm17
  have h45 : f29 aNX = aD (dA 1) 16 (fun _ => 0) := by rw [ef29, va_up_ne _ _ naNX_o1]; exact hzaNX
  have naLI_o1 : aLI ≠ o1 := fun h => hqo1 (h ▸ mm18)
  have m46 : aLI ∈ L28 := by rw [eL28]; exact List.mem_append_left _ mm18
  have h47 : f29 aLI = aI (dA 3) 8 (fun _ => 0) := by rw [ef29, va_up_ne _ _ naLI_o1]; exact hzaLI
  have naLM_o1 : aLM ≠ o1 := fun h => hqo1 (h ▸ mm19)
  have m48 : aLM ∈ L28 := by rw [eL28]; exact List.mem_append_left _ mm19
  have h49 : f29 aLM = aD (dA 1) 8 (fun _ => 0) := by rw [ef29, va_up_ne _ _ naLM_o1]; exact hzaLM
  have naKE_o1 : aKE ≠ o1 := fun h => hqo1 (h ▸ mm20)
  have m50 : aKE ∈ L28 := by rw [eL28]; exact List.mem_append_left _ mm20
  have h51 : f29 aKE = aI (dA 2) 8 (fun _ => 0) := by rw [ef29, va_up_ne _ _ naKE_o1]; exact hzaKE
  have naTX_o1 : aTX ≠ o1 := fun h => hqo1 (h ▸ mm21)
  have m52 : aTX ∈ L28 := by rw [eL28]; exact List.mem_append_left _ mm21
  have h53 : f29 aTX = aI (dA 2) 200 (fun _ => 0) := by rw [ef29, va_up_ne _ _ naTX_o1]; exact hzaTX
  have naBW_o1 : aBW ≠ o1 := fun h => hqo1 (h ▸ mm22)
  have m54 : aBW ∈ L28 := by rw [eL28]; exact List.mem_append_left _ mm22
  have h55 : f29 aBW = aI (dA 3) 12 (fun _ => 0) := by rw [ef29, va_up_ne _ _ naBW_o1]; exact hzaBW
  have naTI_o1 : aTI ≠ o1 := fun h => hqo1 (h ▸ mm23)
  have m56 : aTI ∈ L28 := by rw [eL28]; exact List.mem_append_left _ mm23
  have h57 : f29 aTI = aI (dA 2) 12 (fun _ => 0) := by rw [ef29, va_up_ne _ _ naTI_o1]; exact hzaTI
  have naKV_o1 : aKV ≠ o1 := fun h => hqo1 (h ▸ mm24)
  have m58 : aKV ∈ L28 := by rw [eL28]; exact List.mem_append_left _ mm24
  have h59 : f29 aKV = aI (dA 2) 12 (fun _ => 0) := by rw [ef29, va_up_ne _ _ naKV_o1]; exact hzaKV
  have naDM_o1 : aDM ≠ o1 := fun h => hqo1 (h ▸ mm25)
  have m60 : aDM ∈ L28 := by rw [eL28]; exact List.mem_append_left _ mm25
  have h61 : f29 aDM = aI (dA 2) 12 (fun _ => 0) := by rw [ef29, va_up_ne _ _ naDM_o1]; exact hzaDM
  have m62 : o1 ∈ L28 := by rw [eL28]; exact List.mem_append_right _ List.mem_cons_self
  have h63 : f29 o1 = aL (dA 4) 1 ((fun _ => 0)) := by rw [ef29]; exact va_up_self _ _ _
  have ni64 : o1 ∉ L := fun h => hqo1 (hs26 _ h)
  have hs65 : ∀ z, z ∈ L → z ∈ L28 := fun z h => by rw [eL28]; exact List.mem_append_left _ (hs26 z h)
  have hr66 : ∀ z, z ∈ L → z ≠ b → f29 z = f z := fun z hz hb => (congrFun ef29 z).trans ((va_up_ne _ _ (fun h : z = o1 => ni64 (h ▸ hz))).trans (hr27 z hz hb))
  refine lv_astore_n (lv' := [(3, .ref o1), (2, .ref m9), (1, .ref x), (0, .ref b)]) hx hb dL_law_39 rfl hl (by decide) rfl (fun ls hl => ?_)
  refine lv_iconst (v := 1) hx hb dL_law_40 (by decide) ?_
  refine wnewa_double (N' := 1) hx hb (hts (.arrayClass .double) (by decide +kernel)) hw hA (by decide) (by decide) (by decide) (Nat.le_of_ble_eq_true rfl) (Nat.le_of_ble_eq_true rfl) dL_law_41 (fun o2 H hqo2 hw => ?_)
  obtain ⟨L67, eL67⟩ : ∃ z : List Nat, z = L28 ++ [o2] := ⟨_, rfl⟩
  obtain ⟨f68, ef68⟩ : ∃ z : Nat → va_E, z = va_up f29 o2 (aD (dA 1) 1 ((fun _ => 0))) := ⟨_, rfl⟩
  have hw : ww G dA A s L67 f68 H locs := by rw [eL67, ef68]; exact hw
  have nm9_o2 : m9 ≠ o2 := fun h => hqo2 (h ▸ m30)
  have m69 : m9 ∈ L67 := by rw [eL67]; exact List.mem_append_left _ m30
  have h70 : f68 m9 = .inr (8, [.int 0, .int (nI (clN 16 (cellV xs Ls 0))), .int (nI (clN 8 (cellV xs Ls 1))), .ref aRA, .ref aRB, .double 4643862126702624768, .double 4602678819172646912, .double FP.dconst1, .double 0, .double 0, .long 0, .int 0, .ref aTH, .ref aDE, .ref aKI, .ref aWE, .ref aNX, .ref aLI, .ref aLM, .ref aKE, .ref aTX, .int 0, .int 0, .int 0, .int 0, .ref aBW, .ref aTI, .ref aKV, .ref aDM, .int 0, .int 0]) := by rw [ef68, va_up_ne _ _ nm9_o2]; exact h31
  have naRA_o2 : aRA ≠ o2 := fun h => hqo2 (h ▸ m32)
  have m71 : aRA ∈ L67 := by rw [eL67]; exact List.mem_append_left _ m32
  have h72 : f68 aRA = aD (dA 1) 4 (fun _ => 0) := by rw [ef68, va_up_ne _ _ naRA_o2]; exact h33
  have naRB_o2 : aRB ≠ o2 := fun h => hqo2 (h ▸ m34)
  have m73 : aRB ∈ L67 := by rw [eL67]; exact List.mem_append_left _ m34
  have h74 : f68 aRB = aD (dA 1) 4 (fun _ => 0) := by rw [ef68, va_up_ne _ _ naRB_o2]; exact h35
  have naTH_o2 : aTH ≠ o2 := fun h => hqo2 (h ▸ m36)
  have m75 : aTH ∈ L67 := by rw [eL67]; exact List.mem_append_left _ m36
  have h76 : f68 aTH = aI (dA 3) 8 (fun _ => 0) := by rw [ef68, va_up_ne _ _ naTH_o2]; exact h37
  have naDE_o2 : aDE ≠ o2 := fun h => hqo2 (h ▸ m38)
  have m77 : aDE ∈ L67 := by rw [eL67]; exact List.mem_append_left _ m38
  have h78 : f68 aDE = aD (dA 1) 8 (fun _ => 0) := by rw [ef68, va_up_ne _ _ naDE_o2]; exact h39
  have naKI_o2 : aKI ≠ o2 := fun h => hqo2 (h ▸ m40)
  have m79 : aKI ∈ L67 := by rw [eL67]; exact List.mem_append_left _ m40
  have h80 : f68 aKI = aI (dA 2) 8 (fun _ => 0) := by rw [ef68, va_up_ne _ _ naKI_o2]; exact h41
  have naWE_o2 : aWE ≠ o2 := fun h => hqo2 (h ▸ m42)
  have m81 : aWE ∈ L67 := by rw [eL67]; exact List.mem_append_left _ m42
  have h82 : f68 aWE = aD (dA 1) 128 (fun _ => 0) := by rw [ef68, va_up_ne _ _ naWE_o2]; exact h43
  have naNX_o2 : aNX ≠ o2 := fun h => hqo2 (h ▸ m44)
  have m83 : aNX ∈ L67 := by rw [eL67]; exact List.mem_append_left _ m44
  have h84 : f68 aNX = aD (dA 1) 16 (fun _ => 0) := by rw [ef68, va_up_ne _ _ naNX_o2]; exact h45
  have naLI_o2 : aLI ≠ o2 := fun h => hqo2 (h ▸ m46)
  have m85 : aLI ∈ L67 := by rw [eL67]; exact List.mem_append_left _ m46
  have h86 : f68 aLI = aI (dA 3) 8 (fun _ => 0) := by rw [ef68, va_up_ne _ _ naLI_o2]; exact h47
  have naLM_o2 : aLM ≠ o2 := fun h => hqo2 (h ▸ m48)
  have m87 : aLM ∈ L67 := by rw [eL67]; exact List.mem_append_left _ m48
  have h88 : f68 aLM = aD (dA 1) 8 (fun _ => 0) := by rw [ef68, va_up_ne _ _ naLM_o2]; exact h49
  have naKE_o2 : aKE ≠ o2 := fun h => hqo2 (h ▸ m50)
  have m89 : aKE ∈ L67 := by rw [eL67]; exact List.mem_append_left _ m50
  have h90 : f68 aKE = aI (dA 2) 8 (fun _ => 0) := by rw [ef68, va_up_ne _ _ naKE_o2]; exact h51
  have naTX_o2 : aTX ≠ o2 := fun h => hqo2 (h ▸ m52)
  have m91 : aTX ∈ L67 := by rw [eL67]; exact List.mem_append_left _ m52
  have h92 : f68 aTX = aI (dA 2) 200 (fun _ => 0) := by rw [ef68, va_up_ne _ _ naTX_o2]; exact h53
  have naBW_o2 : aBW ≠ o2 := fun h => hqo2 (h ▸ m54)
  have m93 : aBW ∈ L67 := by rw [eL67]; exact List.mem_append_left _ m54
  have h94 : f68 aBW = aI (dA 3) 12 (fun _ => 0) := by rw [ef68, va_up_ne _ _ naBW_o2]; exact h55
  have naTI_o2 : aTI ≠ o2 := fun h => hqo2 (h ▸ m56)
  have m95 : aTI ∈ L67 := by rw [eL67]; exact List.mem_append_left _ m56
  have h96 : f68 aTI = aI (dA 2) 12 (fun _ => 0) := by rw [ef68, va_up_ne _ _ naTI_o2]; exact h57
  have naKV_o2 : aKV ≠ o2 := fun h => hqo2 (h ▸ m58)
  have m97 : aKV ∈ L67 := by rw [eL67]; exact List.mem_append_left _ m58
  have h98 : f68 aKV = aI (dA 2) 12 (fun _ => 0) := by rw [ef68, va_up_ne _ _ naKV_o2]; exact h59
  have naDM_o2 : aDM ≠ o2 := fun h => hqo2 (h ▸ m60)
  have m99 : aDM ∈ L67 := by rw [eL67]; exact List.mem_append_left _ m60
  have h100 : f68 aDM = aI (dA 2) 12 (fun _ => 0) := by rw [ef68, va_up_ne _ _ naDM_o2]; exact h61
  have no1_o2 : o1 ≠ o2 := fun h => hqo2 (h ▸ m62)
  have m101 : o1 ∈ L67 := by rw [eL67]; exact List.mem_append_left _ m62
  have h102 : f68 o1 = aL (dA 4) 1 ((fun _ => 0)) := by rw [ef68, va_up_ne _ _ no1_o2]; exact h63
  have m103 : o2 ∈ L67 := by rw [eL67]; exact List.mem_append_right _ List.mem_cons_self
  have h104 : f68 o2 = aD (dA 1) 1 ((fun _ => 0)) := by rw [ef68]; exact va_up_self _ _ _
  have ni105 : o2 ∉ L := fun h => hqo2 (hs65 _ h)
  have hs106 : ∀ z, z ∈ L → z ∈ L67 := fun z h => by rw [eL67]; exact List.mem_append_left _ (hs65 z h)
  have hr107 : ∀ z, z ∈ L → z ≠ b → f68 z = f z := fun z hz hb => (congrFun ef68 z).trans ((va_up_ne _ _ (fun h : z = o2 => ni105 (h ▸ hz))).trans (hr66 z hz hb))
  refine lv_astore (lv' := [(4, .ref o2), (3, .ref o1), (2, .ref m9), (1, .ref x), (0, .ref b)]) hx hb dL_law_43 hl (by decide) rfl (fun ls hl => ?_)
  refine lv_iconst (v := 2) hx hb dL_law_45 (by decide) ?_
  refine lv_istore (lv' := [(5, .int 2), (4, .ref o2), (3, .ref o1), (2, .ref m9), (1, .ref x), (0, .ref b)]) hx hb dL_law_46 hl (by decide) rfl (fun ls hl => ?_)
  have hcn := clN_ok (hi := 16) (by decide) (by decide) (cellV xs Ls 0)
  have hcb := clN_ok (hi := 8) (by decide) (by decide) (cellV xs Ls 1)
  rw [← en] at hcn
  rw [← eb] at hcb
  have hn16 := hcn.1
  have hb8 := hcb.1
  obtain ⟨nl, enl⟩ : ∃ nl, n = nl + 1 := ⟨n - 1, by omega⟩
  have eLL : L67 = [x, ks, k0, k1, k2, k3, bs] ++ bl ++ [ar, le, tx, u9, pl, pb, pt, pk, pd, m9, aRA, aRB, aTH, aDE, aKI, aWE, aNX, aLI, aLM, aKE, aTX, aBW, aTI, aKV, aDM, o1, o2] := by rw [eL67, eL28, eL8, eL1, eLs]; simp [List.append_assoc]
  have hnd := D_nodup hw.2.2.1
  rw [eLL] at hnd
  have hlen : ([x, ks, k0, k1, k2, k3, bs] ++ bl ++ [ar, le, tx, u9, pl, pb, pt, pk, pd, m9, aRA, aRB, aTH, aDE, aKI, aWE, aNX, aLI, aLM, aKE, aTX, aBW, aTI, aKV, aDM, o1, o2]).length = 34 + 2 * nb := by simp only [List.length_append, List.length_cons, List.length_nil, hbl9]; omega
  obtain ⟨ad, ead⟩ : ∃ z : Nat → Nat, z = adL nb ([x, ks, k0, k1, k2, k3, bs] ++ bl ++ [ar, le, tx, u9, pl, pb, pt, pk, pd, m9, aRA, aRB, aTH, aDE, aKI, aWE, aNX, aLI, aLM, aKE, aTX, aBW, aTI, aKV, aDM, o1, o2]) := ⟨_, rfl⟩
  have hp7 : ([x, ks, k0, k1, k2, k3, bs] : List Nat).length = 7 := rfl
  have A0 : ad 0 = x := by rw [ead]; exact adL_p (k := 0) hp7 (by decide) rfl
  have A1 : ad 1 = bs := by rw [ead]; exact adL_p (k := 6) hp7 (by decide) rfl
  have A2 : ad 2 = ks := by rw [ead]; exact adL_p (k := 1) hp7 (by decide) rfl
  have A3 : ad 3 = ar := by rw [ead]; exact adL_s (k := 0) hp7 hbl9 (pm_f (by decide) (by decide))
  have A4 : ad 4 = le := by rw [ead]; exact adL_s (k := 1) hp7 hbl9 (pm_f (by decide) (by decide))
  have A5 : ad 5 = tx := by rw [ead]; exact adL_s (k := 2) hp7 hbl9 (pm_f (by decide) (by decide))
  have A6 : ad 6 = u9 := by rw [ead]; exact adL_s (k := 3) hp7 hbl9 (pm_f (by decide) (by decide))
  have A7 : ad 7 = pl := by rw [ead]; exact adL_s (k := 4) hp7 hbl9 (pm_f (by decide) (by decide))
  have A8 : ad 8 = pb := by rw [ead]; exact adL_s (k := 5) hp7 hbl9 (pm_f (by decide) (by decide))
  have A9 : ad 9 = pt := by rw [ead]; exact adL_s (k := 6) hp7 hbl9 (pm_f (by decide) (by decide))
  have A10 : ad 10 = pk := by rw [ead]; exact adL_s (k := 7) hp7 hbl9 (pm_f (by decide) (by decide))
  have A11 : ad 11 = pd := by rw [ead]; exact adL_s (k := 8) hp7 hbl9 (pm_f (by decide) (by decide))
  have A16 : ad 16 = m9 := by rw [ead]; exact adL_s (k := 9) hp7 hbl9 (pm_g (by decide) (by decide))
  have A17 : ad 17 = aRA := by rw [ead]; exact adL_s (k := 10) hp7 hbl9 (pm_g (by decide) (by decide))
  have A18 : ad 18 = aRB := by rw [ead]; exact adL_s (k := 11) hp7 hbl9 (pm_g (by decide) (by decide))
  have A19 : ad 19 = aTH := by rw [ead]; exact adL_s (k := 12) hp7 hbl9 (pm_g (by decide) (by decide))
  have A20 : ad 20 = aDE := by rw [ead]; exact adL_s (k := 13) hp7 hbl9 (pm_g (by decide) (by decide))
  have A21 : ad 21 = aKI := by rw [ead]; exact adL_s (k := 14) hp7 hbl9 (pm_g (by decide) (by decide))
  have A22 : ad 22 = aWE := by rw [ead]; exact adL_s (k := 15) hp7 hbl9 (pm_g (by decide) (by decide))
  have A23 : ad 23 = aNX := by rw [ead]; exact adL_s (k := 16) hp7 hbl9 (pm_g (by decide) (by decide))
  have A24 : ad 24 = aLI := by rw [ead]; exact adL_s (k := 17) hp7 hbl9 (pm_g (by decide) (by decide))
  have A25 : ad 25 = aLM := by rw [ead]; exact adL_s (k := 18) hp7 hbl9 (pm_g (by decide) (by decide))
  have A26 : ad 26 = aKE := by rw [ead]; exact adL_s (k := 19) hp7 hbl9 (pm_g (by decide) (by decide))
  have A27 : ad 27 = aTX := by rw [ead]; exact adL_s (k := 20) hp7 hbl9 (pm_g (by decide) (by decide))
  have A28 : ad 28 = aBW := by rw [ead]; exact adL_s (k := 21) hp7 hbl9 (pm_g (by decide) (by decide))
  have A29 : ad 29 = aTI := by rw [ead]; exact adL_s (k := 22) hp7 hbl9 (pm_g (by decide) (by decide))
  have A30 : ad 30 = aKV := by rw [ead]; exact adL_s (k := 23) hp7 hbl9 (pm_g (by decide) (by decide))
  have A31 : ad 31 = aDM := by rw [ead]; exact adL_s (k := 24) hp7 hbl9 (pm_g (by decide) (by decide))
  have A32 : ad 32 = o1 := by rw [ead]; exact adL_s (k := 25) hp7 hbl9 (pm_g (by decide) (by decide))
  have A33 : ad 33 = o2 := by rw [ead]; exact adL_s (k := 26) hp7 hbl9 (pm_g (by decide) (by decide))
  have A12 : ad 12 = k0 := by rw [ead]; exact adL_p (k := 2) hp7 (by decide) (pm_k (j := 0) (by decide))
  have A13 : ad 13 = k1 := by rw [ead]; exact adL_p (k := 3) hp7 (by decide) (pm_k (j := 1) (by decide))
  have A14 : ad 14 = k2 := by rw [ead]; exact adL_p (k := 4) hp7 (by decide) (pm_k (j := 2) (by decide))
  have A15 : ad 15 = k3 := by rw [ead]; exact adL_p (k := 5) hp7 (by decide) (pm_k (j := 3) (by decide))
  have AB : ∀ j, j < nb → ad (34 + 2 * j) = bl.getD (2 * j) 0 ∧ ad (35 + 2 * j) = bl.getD (2 * j + 1) 0 := fun j hj => by rw [ead]; exact ⟨adL_b hp7 hbl9 (by omega) pm_bd.1, adL_b hp7 hbl9 (by omega) pm_bd.2⟩
  have hmemL : ∀ i, i < 34 + 2 * nb → ad i ∈ L67 := fun i hi => by rw [eLL, ead]; exact gD_m (by rw [hlen]; exact pm_lt hi)
  have hC : Cx ad L67 n nb qb qk := by
    refine ⟨fun i j hi hj h => ?_, hmemL, hn16, hb8, fun j hj => ?_, fun j hj => ?_⟩
    · rw [ead] at h; exact pm_inj hi hj (nodup_getD hnd (by rw [hlen]; exact pm_lt hi) (by rw [hlen]; exact pm_lt hj) h)
    · rw [hqb j hj, (AB j hj).1]
    · match j, hj with
      | 0, _ => rw [show ad (12 + 0) = k0 from A12]; exact hq4.1
      | 1, _ => rw [show ad (12 + 1) = k1 from A13]; exact hq4.2.1
      | 2, _ => rw [show ad (12 + 2) = k2 from A14]; exact hq4.2.2.1
      | 3, _ => rw [show ad (12 + 3) = k3 from A15]; exact hq4.2.2.2
      | j + 4, hj => exact absurd hj (by omega)
  have hmL : ∀ z, z ∈ L → z ≠ b := fun z hz h => hbA (by obtain ⟨i, hi⟩ := pl_get (f := f68) (hs106 z hz); rw [h] at hi; exact hw.2.2.1.2 i _ hi)
  have hF : ∀ z, z ∈ L → f68 z = f z := fun z hz => hr107 z hz (hmL z hz)
  have inL : ∀ z, z ∈ [x] ++ [ks, k0, k1, k2, k3, bs] ++ bl ++ [ar, le, tx, u9, pl, pb, pt, pk, pd] → z ∈ L := fun z h => by rw [eLs]; exact h
  have hKd : ∀ j, j < 4 → f68 (ad (12 + j)) = .inr (3, [.double 0, .double 0]) := fun j hj => by
    match j, hj with
    | 0, _ => rw [show ad (12 + 0) = k0 from A12]; exact (hF _ (inL _ (by simp))).trans hXk.1
    | 1, _ => rw [show ad (12 + 1) = k1 from A13]; exact (hF _ (inL _ (by simp))).trans hXk.2.1
    | 2, _ => rw [show ad (12 + 2) = k2 from A14]; exact (hF _ (inL _ (by simp))).trans hXk.2.2.1
    | 3, _ => rw [show ad (12 + 3) = k3 from A15]; exact (hF _ (inL _ (by simp))).trans hXk.2.2.2
    | j + 4, hj => exact absurd hj (by omega)
  have hmb : ∀ j, j < nb → bl.getD (2 * j) 0 ∈ L ∧ bl.getD (2 * j + 1) 0 ∈ L := fun j hj => ⟨inL _ (List.mem_append_left _ (List.mem_append_right _ (gD_m (by omega)))), inL _ (List.mem_append_left _ (List.mem_append_right _ (gD_m (by omega))))⟩
  have hBd : ∀ j, j < nb → f68 (ad (34 + 2 * j)) = .inr (2, [.ref (ad (35 + 2 * j)), .ref (ad (12 + 0)), .int 0, .double 0, .int 0, .double 0, .int 0]) ∧ f68 (ad (35 + 2 * j)) = aD (dA 1) n (fun _ => 0) := fun j hj => by rw [(AB j hj).1, (AB j hj).2, show ad (12 + 0) = k0 from A12]; exact ⟨(hF _ (hmb j hj).1).trans (hXbd j hj).1, (hF _ (hmb j hj).2).trans (hXbd j hj).2⟩
  have hRC : RC ad dA n nb qb qk x00.1 x00.2.1 x00.2.2.1 x00.2.2.2.1 (fun _ => (0, 0)) (0, fun _ => 0) x00.2.2.2.2.1 x00.2.2.2.2.2 f68 f68 := ⟨(by rw [A0, A1, A2, A3, A4, A5, A7]; exact (hF _ (inL _ (by simp))).trans hX0), (by rw [A1]; exact (hF _ (inL _ (by simp))).trans hXbs), (by rw [A2]; exact (hF _ (inL _ (by simp))).trans hXks), (by rw [A3]; exact (hF _ (inL _ (by simp))).trans hXar), (by rw [A4]; exact (hF _ (inL _ (by simp))).trans hXle), (by rw [A5, A6]; exact (hF _ (inL _ (by simp))).trans hXtx), (by rw [A6]; exact (hF _ (inL _ (by simp))).trans hXu9), (by rw [A7, A8, A9, A10, A11]; exact (hF _ (inL _ (by simp))).trans hXpl), (by rw [A8]; exact (hF _ (inL _ (by simp))).trans hXpb), (by rw [A9]; exact (hF _ (inL _ (by simp))).trans hXpt), (by rw [A10]; exact (hF _ (inL _ (by simp))).trans hXpk), (by rw [A11]; exact (hF _ (inL _ (by simp))).trans hXpd), hKd, fun j hj => (hBd j hj).1, fun j hj => (hBd j hj).2, fun _ _ _ => rfl⟩
  have hMm : f68 m9 = .inr (8, [.int 0, .int (nI n), .int (nI nb), .ref aRA, .ref aRB, .double 4643862126702624768, .double 4602678819172646912, .double FP.dconst1, .double 0, .double 0, .long 0, .int 0, .ref aTH, .ref aDE, .ref aKI, .ref aWE, .ref aNX, .ref aLI, .ref aLM, .ref aKE, .ref aTX, .int 0, .int 0, .int 0, .int 0, .ref aBW, .ref aTI, .ref aKV, .ref aDM, .int 0, .int 0]) := by rw [en, eb]; exact h70
  have hMX : MX ad dA n nb x00.1.1 x00.1.2.1 x00.1.2.2.1 x00.1.2.2.2 x00.2.1.1 x00.2.1.2 x00.2.2.2.2.2 (((0, fun _ => 0) : sT).1) x00.2.2.2.2.1.1 x00.2.2.2.2.1.2.1 0 0 0 0 (fun _ => 0) (fun _ => 0) (fun _ => 0) (fun _ => 0) (fun _ => 0) (fun _ => 0) (fun _ => 0) (fun _ => 0) (fun _ => 0) (fun _ => 0) (fun _ => 0) (fun _ => 0) (fun _ => 0) (fun _ => 0) (fun _ => 0) f68 f68 := ⟨(by rw [A16, A17, A18, A19, A20, A21, A22, A23, A24, A25, A26, A27, A28, A29, A30, A31]; exact hMm), (by rw [A17]; exact h72), (by rw [A18]; exact h74), (by rw [A19]; exact h76), (by rw [A20]; exact h78), (by rw [A21]; exact h80), (by rw [A22]; exact h82), (by rw [A23]; exact h84), (by rw [A24]; exact h86), (by rw [A25]; exact h88), (by rw [A26]; exact h90), (by rw [A27]; exact h92), (by rw [A28]; exact h94), (by rw [A29]; exact h96), (by rw [A30]; exact h98), (by rw [A31]; exact h100), fun _ _ _ => rfl⟩
  have hRM : RM ad dA n nb x00.1 x00.2.1 x00.2.2.1 x00.2.2.2.1 (fun _ => (0, 0)) (0, fun _ => 0) x00.2.2.2.2.1 x00.2.2.2.2.2 0 f68 f68 := ⟨_, _, _, _, _, _, _, _, _, _, _, _, _, _, _, _, _, _, hMX, fun _ _ => ⟨rfl, rfl⟩, fun _ _ => ⟨rfl, rfl, rfl, rfl, rfl, rfl⟩, fun _ _ _ _ => rfl, fun z hz => absurd hz (Nat.not_lt_zero z), MGp_0 _ _ _ _ _ _ _ _⟩
  have ho1 : f68 (ad 32) = aL (dA 4) 1 (fun _ => 0) := by rw [A32]; exact h102
  have ho2 : f68 (ad 33) = aD (dA 1) 1 (fun _ => 0) := by rw [A33]; exact h104
  subst enl
  have hLwI : LwI ad dA nl nb qb qk x00 (fun _ => (0, 0)) (0, fun _ => 0) f68 := ⟨hRC, ⟨0, hRM⟩, ⟨_, ho1⟩, ⟨_, ho2⟩, GR_00 nl nb, Nat.zero_le _, fun z hz => absurd hz (Nat.not_lt_zero z)⟩
  have hLC9 : LC p l s m c meth b Ls xs G dA sa ad L67 nl nb qb qk := ⟨hx, hb, hml, hown, hts, hXs, hbl, hlt, hE9, hC, hLs, hr9, hlocks⟩
  rw [hAe] at hw
  refine W.widen (k := 50 + 2) (n := 1000 + 6 * 2) (Nat.le_of_ble_eq_true rfl) (Nat.le_of_ble_eq_true rfl) ?_
  exact law_loop hLC9 (Ls + 1) 2 (by omega) (by omega) x00 (fun _ => (0, 0)) (0, fun _ => 0) f68 _ _ ls hLwI (Nat.zero_le _) hw (by rw [A0, A16, A32, A33]; exact lv_sub hl [5, 4, 3, 2, 1, 0] rfl)
