theorem gD_l {a b : List Nat} {i : Nat} (h : i < a.length) : (a ++ b).getD i 0 = a.getD i 0 := by
  rw [List.getD_eq_getElem?_getD, List.getD_eq_getElem?_getD, List.getElem?_append_left h]
theorem gD_r {a b : List Nat} {i : Nat} (h : a.length ≤ i) : (a ++ b).getD i 0 = b.getD (i - a.length) 0 := by
  rw [List.getD_eq_getElem?_getD, List.getD_eq_getElem?_getD, List.getElem?_append_right h]
theorem gD_m {a : List Nat} {i : Nat} (h : i < a.length) : a.getD i 0 ∈ a := by
  rw [List.getD_eq_getElem?_getD, List.getElem?_eq_getElem h]; exact List.getElem_mem h

set_option maxHeartbeats 4000000 in
set_option maxRecDepth 100000 in
theorem c_X6_init (l : Launch) (G : va_G) (dA : Nat → ClassId) (L : List Nat) (f : Nat → va_E) (b : Nat) (v1 v2 : Int32) (hLb : b ∈ L) (hfb : f b = .inr (7, [.int 0, .null, .null, .null, .null, .null, .null, .int 0]))  : mN l yX6_init wsX6_init ({ frames := 2, cells := 31, slots := 467, locals := 42 }) G dA [.ref b, .int v1, .int v2] L f 31 467 (nE) (fun u => ∃ (ks k0 k1 k2 k3 bs : Nat) (bl : List Nat) (ar le tx u9 pl pb pt pk pd : Nat) (qk qb : Nat → Option Nat), u.1 = L ++ [ks, k0, k1, k2, k3, bs] ++ bl ++ [ar, le, tx, u9, pl, pb, pt, pk, pd] ∧ bl.length = 2 * clN 8 v2 ∧ (qk 0 = some k0 ∧ qk 1 = some k1 ∧ qk 2 = some k2 ∧ qk 3 = some k3) ∧ (∀ j, j < clN 8 v2 → qb j = some (bl.getD (2 * j) 0)) ∧ u.2 b = .inr (7, [.int (nI (clN 16 v1)), .ref bs, .ref ks, .ref ar, .ref le, .ref tx, .ref pl, .int 0]) ∧ u.2 ks = aQ (dA 6) 4 qk ∧ u.2 bs = aQ (dA 5) (clN 8 v2) qb ∧ (u.2 k0 = .inr (3, [.double 0, .double 0]) ∧ u.2 k1 = .inr (3, [.double 0, .double 0]) ∧ u.2 k2 = .inr (3, [.double 0, .double 0]) ∧ u.2 k3 = .inr (3, [.double 0, .double 0])) ∧ (∀ j, j < clN 8 v2 → u.2 (bl.getD (2 * j) 0) = .inr (2, [.ref (bl.getD (2 * j + 1) 0), .ref k0, .int 0, .double 0, .int 0, .double 0, .int 0]) ∧ u.2 (bl.getD (2 * j + 1) 0) = aD (dA 1) (clN 16 v1) (fun _ => 0)) ∧ u.2 ar = .inr (1, [.double 4643862126702624768, .double 4602678819172646912, .double FP.dconst1, .double FP.dconst0]) ∧ u.2 le = .inr (4, [.double 0, .long 0]) ∧ u.2 tx = .inr (6, [.ref u9, .int 0, .int 0]) ∧ u.2 u9 = aI (dA 0) 200 (fun _ => 0) ∧ u.2 pl = .inr (5, [.ref pb, .ref pt, .ref pk, .ref pd, .int 0, .int 0]) ∧ u.2 pb = aI (dA 3) 12 (fun _ => 0) ∧ u.2 pt = aI (dA 2) 12 (fun _ => 0) ∧ u.2 pk = aI (dA 2) 12 (fun _ => 0) ∧ u.2 pd = aI (dA 2) 12 (fun _ => 0) ∧ (∀ z, z ∈ L → z ≠ b → u.2 z = f z)) := by
  refine mN_of (cc := cX6_init) (maxL := 4) (by decide) rfl (Nat.le_of_ble_eq_true rfl) ?_
  intro p e s m below meth c A ls Q hx hb hml hown hts hlocks hA hin0 hE hw hl hret
  have hown : s.vm.findClass RX6 = some m.cls := hown
  have hl : lv_has ls 4 [(0, .ref b), (1, .int v1), (2, .int v2)] := hl
  have hi0 : ∀ w ∈ u_ws RX0 TX0 4, w ∈ wsX6_init := by decide +kernel
  have hi1 : ∀ w ∈ u_ws RX1 TX1 7, w ∈ wsX6_init := by decide +kernel
  have hi2 : ∀ w ∈ u_ws RX2 TX2 2, w ∈ wsX6_init := by decide +kernel
  have hi3 : ∀ w ∈ u_ws RX3 TX3 2, w ∈ wsX6_init := by decide +kernel
  have hi4 : ∀ w ∈ u_ws RX4 TX4 6, w ∈ wsX6_init := by decide +kernel
  have hi5 : ∀ w ∈ u_ws RX5 TX5 3, w ∈ wsX6_init := by decide +kernel
  have hi6 : ∀ w ∈ u_ws RX6 TX6 8, w ∈ wsX6_init := by decide +kernel
  have hsub0 : ∀ z, z ∈ L → z ∈ L := fun _ h => h
  have hfr0 : ∀ z, z ∈ L → z ≠ b → f z = f z := fun _ _ _ => rfl
  obtain ⟨n, en⟩ : ∃ z, z = clN 16 v1 := ⟨_, rfl⟩
  obtain ⟨nb, eb⟩ : ∃ z, z = clN 8 v2 := ⟨_, rfl⟩
  have cn := clN_ok (hi := 16) (by decide) (by decide) v1
  have cb := clN_ok (hi := 8) (by decide) (by decide) v2
  rw [← en] at cn
  rw [← eb] at cb
  have hcn := cn.2.1
  have hcb := cb.2.1
  have hn16 : n ≤ 16 := cn.1.2
  have hn31 : n < 2 ^ 31 := by omega
  have hnb8 : nb ≤ 8 := cb.1.2
  have hnb31 : nb < 2 ^ 31 := by omega
  refine lv_aload_n hx hb dX6_init_0 rfl (lv_at hl 0 rfl) ?_
  refine W.objInit hx hb hown (hts (.methodLink RX6 1 objectInit) (by decide +kernel)) (hts (.instanceMethod objectInit) (by decide +kernel)) (hts (.code objectInit ⟨#[0xb1]⟩ 1 none) (List.mem_of_getElem? (i := 3) rfl)) rfl (by rw [hml]; exact hl.1) rfl dX6_init_1 (Nat.le_of_ble_eq_true rfl) (Nat.le_of_ble_eq_true rfl) ?_
  refine W.eq (g2 := F0 m 4 ls []) rfl ?_
  refine lv_aload_n hx hb dX6_init_4 rfl (lv_at hl 0 rfl) ?_
  refine lv_iconst (v := 1) hx hb dX6_init_5 (by decide) ?_
  refine lv_bipush (v := 16) hx hb dX6_init_6 (by decide) ?_
  refine lv_iload_n hx hb dX6_init_8 rfl (lv_at hl 1 rfl) ?_
  refine va_mmin hx hb (by rw [hml]; exact hl.1.symm) hown (hts (.methodLink RX6 9 Lib.Math.min.name) (by decide +kernel)) (hts (.static Lib.Math.min.name) (by decide +kernel)) (hts (.initialized "java/lang/Math") (by decide +kernel)) (hts (.code Lib.Math.min.name Lib.Math.min.code 2 (some .int)) (List.mem_of_getElem? (i := 7) rfl)) (Nat.le_of_ble_eq_true rfl) (Nat.le_of_ble_eq_true rfl) (Nat.le_of_ble_eq_true rfl) (Nat.le_of_ble_eq_true rfl) dX6_init_9 ?_
  refine va_mmax hx hb (by rw [hml]; exact hl.1.symm) hown (hts (.methodLink RX6 15 Lib.Math.max.name) (by decide +kernel)) (hts (.static Lib.Math.max.name) (by decide +kernel)) (hts (.initialized "java/lang/Math") (by decide +kernel)) (hts (.code Lib.Math.max.name Lib.Math.max.code 2 (some .int)) (List.mem_of_getElem? (i := 10) rfl)) (Nat.le_of_ble_eq_true rfl) (Nat.le_of_ble_eq_true rfl) (Nat.le_of_ble_eq_true rfl) (Nat.le_of_ble_eq_true rfl) dX6_init_12 ?_
  rw [show (if 1 < (if v1 < 16 then v1 else 16) then (if v1 < 16 then v1 else 16) else 1) = nI n from hcn]
  refine wpF_ (C := RX6) (T := TX6) (N := 8) hx hb hts hi6 tyX6 tyX6_ok nmX6 hown hw hLb hfb rfl 0 (by decide) (hts (.fieldLink RX6 18 "LayerMoisture" "layerCount" "I") (by decide +kernel)) (fun _ h9 => h9) rfl hin0 rfl (ty := .int) (v := .int (nI n)) (by decide +kernel) rfl rfl (Nat.le_of_ble_eq_true rfl) dX6_init_15 (fun H locs hw => ?_)
  obtain ⟨f1, ef1⟩ : ∃ z : Nat → va_E, z = va_up f b (.inr (7, [.int (nI n), .null, .null, .null, .null, .null, .null, .int 0])) := ⟨_, rfl⟩
  have hw : ww G dA A s L f1 H locs := by rw [ef1]; exact hw
  have h2 : f1 b = .inr (7, [.int (nI n), .null, .null, .null, .null, .null, .null, .int 0]) := by rw [ef1]; exact va_up_self _ _ _
  have hr3 : ∀ z, z ∈ L → z ≠ b → f1 z = f z := fun z hz hb => (congrFun ef1 z).trans ((va_up_ne _ _ hb).trans (hfr0 z hz hb))
  refine lv_aload_n hx hb dX6_init_18 rfl (lv_at hl 0 rfl) ?_
  refine lv_iconst (v := 4) hx hb dX6_init_19 (by decide) ?_
  refine wnewq_6 (N' := 4) hx hb hown (hts (.classLink RX6 22 RX2) (by decide +kernel)) hE.1.2 hw hA (by decide) (by decide) (by decide) (Nat.le_of_ble_eq_true rfl) (Nat.le_of_ble_eq_true rfl) dX6_init_20 (fun ks H hqks hw => ?_)
  obtain ⟨L4, eL4⟩ : ∃ z : List Nat, z = L ++ [ks] := ⟨_, rfl⟩
  obtain ⟨f5, ef5⟩ : ∃ z : Nat → va_E, z = va_up f1 ks (aQ (dA 6) 4 ((fun _ => none))) := ⟨_, rfl⟩
  have hw : ww G dA A s L4 f5 H locs := by rw [eL4, ef5]; exact hw
  have nb_ks : b ≠ ks := fun h => hqks (h ▸ hLb)
  have m6 : b ∈ L4 := by rw [eL4]; exact List.mem_append_left _ hLb
  have h7 : f5 b = .inr (7, [.int (nI n), .null, .null, .null, .null, .null, .null, .int 0]) := by rw [ef5, va_up_ne _ _ nb_ks]; exact h2
  have m8 : ks ∈ L4 := by rw [eL4]; exact List.mem_append_right _ List.mem_cons_self
  have h9 : f5 ks = aQ (dA 6) 4 ((fun _ => none)) := by rw [ef5]; exact va_up_self _ _ _
  have ni10 : ks ∉ L := fun h => hqks (hsub0 _ h)
  have hs11 : ∀ z, z ∈ L → z ∈ L4 := fun z h => by rw [eL4]; exact List.mem_append_left _ (hsub0 z h)
  have hr12 : ∀ z, z ∈ L → z ≠ b → f5 z = f z := fun z hz hb => (congrFun ef5 z).trans ((va_up_ne _ _ (fun h : z = ks => ni10 (h ▸ hz))).trans (hr3 z hz hb))
  refine wpF_ (C := RX6) (T := TX6) (N := 8) hx hb hts hi6 tyX6 tyX6_ok nmX6 hown hw m6 h7 rfl 2 (by decide) (hts (.fieldLink RX6 24 "LayerMoisture" "kinds" "[LLayerMoisture$Kind;") (by decide +kernel)) (fun _ h9 => h9) rfl hin0 rfl (ty := .array (.object "LayerMoisture$Kind")) (v := .ref ks) (by decide +kernel) rfl rfl (Nat.le_of_ble_eq_true rfl) dX6_init_23 (fun H locs hw => ?_)
  obtain ⟨f13, ef13⟩ : ∃ z : Nat → va_E, z = va_up f5 b (.inr (7, [.int (nI n), .null, .ref ks, .null, .null, .null, .null, .int 0])) := ⟨_, rfl⟩
  have hw : ww G dA A s L4 f13 H locs := by rw [ef13]; exact hw
  have h14 : f13 b = .inr (7, [.int (nI n), .null, .ref ks, .null, .null, .null, .null, .int 0]) := by rw [ef13]; exact va_up_self _ _ _
  have h15 : f13 ks = aQ (dA 6) 4 ((fun _ => none)) := by rw [ef13, va_up_ne _ _ (Ne.symm nb_ks)]; exact h9
  have hr16 : ∀ z, z ∈ L → z ≠ b → f13 z = f z := fun z hz hb => (congrFun ef13 z).trans ((va_up_ne _ _ hb).trans (hr12 z hz hb))
  refine lv_iconst (v := 0) hx hb dX6_init_26 (by decide) ?_
  refine lv_istore_n (lv' := [(3, .int 0), (0, .ref b), (1, .int v1), (2, .int v2)]) hx hb dX6_init_27 rfl hl (by decide) rfl (fun ls hl => ?_)
  refine lv_iload_n hx hb dX6_init_28 rfl (lv_at hl 0 rfl) ?_
  refine lv_aload_n hx hb dX6_init_29 rfl (lv_at hl 1 rfl) ?_
  refine wg (C := RX6) (T := TX6) (N := 8) hx hb hts hi6 hown hw m6 h14 rfl 2 (by decide) (hts (.fieldLink RX6 24 "LayerMoisture" "kinds" "[LLayerMoisture$Kind;") (by decide +kernel)) (fun _ h9 => h9) (v := .ref ks) rfl dX6_init_30 ?_
  refine wlen hx hb 6 hw m8 h15 rfl dX6_init_33 ?_
  refine lv_icmp_ge (tgt := 56) hx hb dX6_init_34 (by decide) (fun c9 => absurd c9 (show ¬ nI 4 ≤ 0 by decide)) (fun _ => ?_)
  refine lv_aload_n hx hb dX6_init_37 rfl (lv_at hl 1 rfl) ?_
  refine wg (C := RX6) (T := TX6) (N := 8) hx hb hts hi6 hown hw m6 h14 rfl 2 (by decide) (hts (.fieldLink RX6 24 "LayerMoisture" "kinds" "[LLayerMoisture$Kind;") (by decide +kernel)) (fun _ h9 => h9) (v := .ref ks) rfl dX6_init_38 ?_
  refine lv_iload_n hx hb dX6_init_41 rfl (lv_at hl 0 rfl) ?_
  refine wnew (C := RX2) (T := TX2) (N := 2) (ci := 3) (fs := [.double 0, .double 0]) hx hb hts hi2 tyX2 tyX2_ok hown (hts (.classLink RX6 22 RX2) (by decide +kernel)) (hts (.instantiable RX2 2) (by decide +kernel)) (hts (.initialized RX2) (by decide +kernel)) hw hA rfl (by decide +kernel) (Nat.le_of_ble_eq_true rfl) (Nat.le_of_ble_eq_true rfl) dX6_init_42 (fun k0 H hqk0 hw => ?_)
  obtain ⟨L17, eL17⟩ : ∃ z : List Nat, z = L4 ++ [k0] := ⟨_, rfl⟩
  obtain ⟨f18, ef18⟩ : ∃ z : Nat → va_E, z = va_up f13 k0 (.inr (3, [.double 0, .double 0])) := ⟨_, rfl⟩
  have hw : ww G dA A s L17 f18 H locs := by rw [eL17, ef18]; exact hw
  have nb_k0 : b ≠ k0 := fun h => hqk0 (h ▸ m6)
  have m19 : b ∈ L17 := by rw [eL17]; exact List.mem_append_left _ m6
  have h20 : f18 b = .inr (7, [.int (nI n), .null, .ref ks, .null, .null, .null, .null, .int 0]) := by rw [ef18, va_up_ne _ _ nb_k0]; exact h14
  have nks_k0 : ks ≠ k0 := fun h => hqk0 (h ▸ m8)
  have m21 : ks ∈ L17 := by rw [eL17]; exact List.mem_append_left _ m8
  have h22 : f18 ks = aQ (dA 6) 4 ((fun _ => none)) := by rw [ef18, va_up_ne _ _ nks_k0]; exact h15
  have m23 : k0 ∈ L17 := by rw [eL17]; exact List.mem_append_right _ List.mem_cons_self
  have h24 : f18 k0 = .inr (3, [.double 0, .double 0]) := by rw [ef18]; exact va_up_self _ _ _
  have ni25 : k0 ∉ L := fun h => hqk0 (hs11 _ h)
  have hs26 : ∀ z, z ∈ L → z ∈ L17 := fun z h => by rw [eL17]; exact List.mem_append_left _ (hs11 z h)
  have hr27 : ∀ z, z ∈ L → z ≠ b → f18 z = f z := fun z hz hb => (congrFun ef18 z).trans ((va_up_ne _ _ (fun h : z = k0 => ni25 (h ▸ hz))).trans (hr16 z hz hb))
  refine lv_dup hx hb dX6_init_45 rfl ?_
  refine kN_N (host := RX6) (As := []) (rest := [.ref k0, .int 0, .ref ks]) ⟨hx, hb, hml, hown, hts⟩ (c_X2_init l G dA L17 f18 k0 m23 h24) ⟨va_cnB 0 hts gX6_init_X2_init_n28 rfl rfl rfl (hE.2 _ (by decide +kernel)) (hts (.initialized RX2) (by decide +kernel)) (by decide +kernel) ⟨Nat.le_of_ble_eq_true rfl, Nat.le_of_ble_eq_true rfl⟩, rfl, hts (.instanceMethod yX2_init) (by decide +kernel)⟩ hw hA (fun _ _ => trivial) (fun _ _ _ _ _ => trivial) rfl hl.1 rfl (Nat.le_of_ble_eq_true rfl) dX6_init_46 ⟨Nat.le_of_ble_eq_true rfl, Nat.le_of_ble_eq_true rfl⟩ (fun L28 f29 H locs hp hw => ?_)
  obtain ⟨eL9, ef9⟩ := hp
  have eL9 : L28 = L17 := eL9
  have ef9 : f29 = f18 := ef9
  rw [eL9, ef9] at hw
  refine wst_q6 hx hb hw m21 h22 m23 h24 0 (by decide) (by decide) nI_0.symm dX6_init_49 (fun H locs hw => ?_)
  obtain ⟨f30, ef30⟩ : ∃ z : Nat → va_E, z = va_up f18 ks (aQ (dA 6) 4 ((va_up ((fun _ => none)) 0 (some k0)))) := ⟨_, rfl⟩
  have hw : ww G dA A s L17 f30 H locs := by rw [ef30]; exact hw
  have h31 : f30 b = .inr (7, [.int (nI n), .null, .ref ks, .null, .null, .null, .null, .int 0]) := by rw [ef30, va_up_ne _ _ nb_ks]; exact h20
  have h32 : f30 ks = aQ (dA 6) 4 ((va_up ((fun _ => none)) 0 (some k0))) := by rw [ef30]; exact va_up_self _ _ _
  have h33 : f30 k0 = .inr (3, [.double 0, .double 0]) := by rw [ef30, va_up_ne _ _ (Ne.symm nks_k0)]; exact h24
  have hr34 : ∀ z, z ∈ L → z ≠ b → f30 z = f z := fun z hz hb => (congrFun ef30 z).trans ((va_up_ne _ _ (fun h : z = ks => ni10 (h ▸ hz))).trans (hr27 z hz hb))
  refine lv_iinc (v := nI 1) (lv' := [(3, .int (nI 1)), (0, .ref b), (1, .int v1), (2, .int v2)]) hx hb dX6_init_50 hl (k := 0) rfl (by decide) (by decide) rfl (fun ls hl => ?_)
  refine lv_goto (tgt := 28) hx hb dX6_init_53 (by decide) ?_
  refine lv_iload_n hx hb dX6_init_28 rfl (lv_at hl 0 rfl) ?_
  refine lv_aload_n hx hb dX6_init_29 rfl (lv_at hl 1 rfl) ?_
  refine wg (C := RX6) (T := TX6) (N := 8) hx hb hts hi6 hown hw m19 h31 rfl 2 (by decide) (hts (.fieldLink RX6 24 "LayerMoisture" "kinds" "[LLayerMoisture$Kind;") (by decide +kernel)) (fun _ h9 => h9) (v := .ref ks) rfl dX6_init_30 ?_
  refine wlen hx hb 6 hw m21 h32 rfl dX6_init_33 ?_
  refine lv_icmp_ge (tgt := 56) hx hb dX6_init_34 (by decide) (fun c9 => absurd c9 (show ¬ nI 4 ≤ nI 1 by decide)) (fun _ => ?_)
  refine lv_aload_n hx hb dX6_init_37 rfl (lv_at hl 1 rfl) ?_
  refine wg (C := RX6) (T := TX6) (N := 8) hx hb hts hi6 hown hw m19 h31 rfl 2 (by decide) (hts (.fieldLink RX6 24 "LayerMoisture" "kinds" "[LLayerMoisture$Kind;") (by decide +kernel)) (fun _ h9 => h9) (v := .ref ks) rfl dX6_init_38 ?_
  refine lv_iload_n hx hb dX6_init_41 rfl (lv_at hl 0 rfl) ?_
  refine wnew (C := RX2) (T := TX2) (N := 2) (ci := 3) (fs := [.double 0, .double 0]) hx hb hts hi2 tyX2 tyX2_ok hown (hts (.classLink RX6 22 RX2) (by decide +kernel)) (hts (.instantiable RX2 2) (by decide +kernel)) (hts (.initialized RX2) (by decide +kernel)) hw hA rfl (by decide +kernel) (Nat.le_of_ble_eq_true rfl) (Nat.le_of_ble_eq_true rfl) dX6_init_42 (fun k1 H hqk1 hw => ?_)
  obtain ⟨L35, eL35⟩ : ∃ z : List Nat, z = L17 ++ [k1] := ⟨_, rfl⟩
  obtain ⟨f36, ef36⟩ : ∃ z : Nat → va_E, z = va_up f30 k1 (.inr (3, [.double 0, .double 0])) := ⟨_, rfl⟩
  have hw : ww G dA A s L35 f36 H locs := by rw [eL35, ef36]; exact hw
  have nb_k1 : b ≠ k1 := fun h => hqk1 (h ▸ m19)
  have m37 : b ∈ L35 := by rw [eL35]; exact List.mem_append_left _ m19
  have h38 : f36 b = .inr (7, [.int (nI n), .null, .ref ks, .null, .null, .null, .null, .int 0]) := by rw [ef36, va_up_ne _ _ nb_k1]; exact h31
  have nks_k1 : ks ≠ k1 := fun h => hqk1 (h ▸ m21)
  have m39 : ks ∈ L35 := by rw [eL35]; exact List.mem_append_left _ m21
  have h40 : f36 ks = aQ (dA 6) 4 ((va_up ((fun _ => none)) 0 (some k0))) := by rw [ef36, va_up_ne _ _ nks_k1]; exact h32
  have nk0_k1 : k0 ≠ k1 := fun h => hqk1 (h ▸ m23)
  have m41 : k0 ∈ L35 := by rw [eL35]; exact List.mem_append_left _ m23
  have h42 : f36 k0 = .inr (3, [.double 0, .double 0]) := by rw [ef36, va_up_ne _ _ nk0_k1]; exact h33
  have m43 : k1 ∈ L35 := by rw [eL35]; exact List.mem_append_right _ List.mem_cons_self
  have h44 : f36 k1 = .inr (3, [.double 0, .double 0]) := by rw [ef36]; exact va_up_self _ _ _
  have ni45 : k1 ∉ L := fun h => hqk1 (hs26 _ h)
  have hs46 : ∀ z, z ∈ L → z ∈ L35 := fun z h => by rw [eL35]; exact List.mem_append_left _ (hs26 z h)
  have hr47 : ∀ z, z ∈ L → z ≠ b → f36 z = f z := fun z hz hb => (congrFun ef36 z).trans ((va_up_ne _ _ (fun h : z = k1 => ni45 (h ▸ hz))).trans (hr34 z hz hb))
  refine lv_dup hx hb dX6_init_45 rfl ?_
  refine kN_N (host := RX6) (As := []) (rest := [.ref k1, .int (nI 1), .ref ks]) ⟨hx, hb, hml, hown, hts⟩ (c_X2_init l G dA L35 f36 k1 m43 h44) ⟨va_cnB 0 hts gX6_init_X2_init_n28 rfl rfl rfl (hE.2 _ (by decide +kernel)) (hts (.initialized RX2) (by decide +kernel)) (by decide +kernel) ⟨Nat.le_of_ble_eq_true rfl, Nat.le_of_ble_eq_true rfl⟩, rfl, hts (.instanceMethod yX2_init) (by decide +kernel)⟩ hw hA (fun _ _ => trivial) (fun _ _ _ _ _ => trivial) rfl hl.1 rfl (Nat.le_of_ble_eq_true rfl) dX6_init_46 ⟨Nat.le_of_ble_eq_true rfl, Nat.le_of_ble_eq_true rfl⟩ (fun L48 f49 H locs hp hw => ?_)
  obtain ⟨eL9, ef9⟩ := hp
  have eL9 : L48 = L35 := eL9
  have ef9 : f49 = f36 := ef9
  rw [eL9, ef9] at hw
  refine wst_q6 hx hb hw m39 h40 m43 h44 1 (by decide) (by decide) rfl dX6_init_49 (fun H locs hw => ?_)
  obtain ⟨f50, ef50⟩ : ∃ z : Nat → va_E, z = va_up f36 ks (aQ (dA 6) 4 ((va_up ((va_up ((fun _ => none)) 0 (some k0))) 1 (some k1)))) := ⟨_, rfl⟩
  have hw : ww G dA A s L35 f50 H locs := by rw [ef50]; exact hw
  have h51 : f50 b = .inr (7, [.int (nI n), .null, .ref ks, .null, .null, .null, .null, .int 0]) := by rw [ef50, va_up_ne _ _ nb_ks]; exact h38
  have h52 : f50 ks = aQ (dA 6) 4 ((va_up ((va_up ((fun _ => none)) 0 (some k0))) 1 (some k1))) := by rw [ef50]; exact va_up_self _ _ _
  have h53 : f50 k0 = .inr (3, [.double 0, .double 0]) := by rw [ef50, va_up_ne _ _ (Ne.symm nks_k0)]; exact h42
  have h54 : f50 k1 = .inr (3, [.double 0, .double 0]) := by rw [ef50, va_up_ne _ _ (Ne.symm nks_k1)]; exact h44
  have hr55 : ∀ z, z ∈ L → z ≠ b → f50 z = f z := fun z hz hb => (congrFun ef50 z).trans ((va_up_ne _ _ (fun h : z = ks => ni10 (h ▸ hz))).trans (hr47 z hz hb))
  refine lv_iinc (v := nI 2) (lv' := [(3, .int (nI 2)), (0, .ref b), (1, .int v1), (2, .int v2)]) hx hb dX6_init_50 hl (k := 0) rfl (by decide) (by decide) rfl (fun ls hl => ?_)
  refine lv_goto (tgt := 28) hx hb dX6_init_53 (by decide) ?_
  refine lv_iload_n hx hb dX6_init_28 rfl (lv_at hl 0 rfl) ?_
  refine lv_aload_n hx hb dX6_init_29 rfl (lv_at hl 1 rfl) ?_
  refine wg (C := RX6) (T := TX6) (N := 8) hx hb hts hi6 hown hw m37 h51 rfl 2 (by decide) (hts (.fieldLink RX6 24 "LayerMoisture" "kinds" "[LLayerMoisture$Kind;") (by decide +kernel)) (fun _ h9 => h9) (v := .ref ks) rfl dX6_init_30 ?_
  refine wlen hx hb 6 hw m39 h52 rfl dX6_init_33 ?_
  refine lv_icmp_ge (tgt := 56) hx hb dX6_init_34 (by decide) (fun c9 => absurd c9 (show ¬ nI 4 ≤ nI 2 by decide)) (fun _ => ?_)
  refine lv_aload_n hx hb dX6_init_37 rfl (lv_at hl 1 rfl) ?_
  refine wg (C := RX6) (T := TX6) (N := 8) hx hb hts hi6 hown hw m37 h51 rfl 2 (by decide) (hts (.fieldLink RX6 24 "LayerMoisture" "kinds" "[LLayerMoisture$Kind;") (by decide +kernel)) (fun _ h9 => h9) (v := .ref ks) rfl dX6_init_38 ?_
  refine lv_iload_n hx hb dX6_init_41 rfl (lv_at hl 0 rfl) ?_
  refine wnew (C := RX2) (T := TX2) (N := 2) (ci := 3) (fs := [.double 0, .double 0]) hx hb hts hi2 tyX2 tyX2_ok hown (hts (.classLink RX6 22 RX2) (by decide +kernel)) (hts (.instantiable RX2 2) (by decide +kernel)) (hts (.initialized RX2) (by decide +kernel)) hw hA rfl (by decide +kernel) (Nat.le_of_ble_eq_true rfl) (Nat.le_of_ble_eq_true rfl) dX6_init_42 (fun k2 H hqk2 hw => ?_)
  obtain ⟨L56, eL56⟩ : ∃ z : List Nat, z = L35 ++ [k2] := ⟨_, rfl⟩
  obtain ⟨f57, ef57⟩ : ∃ z : Nat → va_E, z = va_up f50 k2 (.inr (3, [.double 0, .double 0])) := ⟨_, rfl⟩
  have hw : ww G dA A s L56 f57 H locs := by rw [eL56, ef57]; exact hw
  have nb_k2 : b ≠ k2 := fun h => hqk2 (h ▸ m37)
  have m58 : b ∈ L56 := by rw [eL56]; exact List.mem_append_left _ m37
  have h59 : f57 b = .inr (7, [.int (nI n), .null, .ref ks, .null, .null, .null, .null, .int 0]) := by rw [ef57, va_up_ne _ _ nb_k2]; exact h51
  have nks_k2 : ks ≠ k2 := fun h => hqk2 (h ▸ m39)
  have m60 : ks ∈ L56 := by rw [eL56]; exact List.mem_append_left _ m39
  have h61 : f57 ks = aQ (dA 6) 4 ((va_up ((va_up ((fun _ => none)) 0 (some k0))) 1 (some k1))) := by rw [ef57, va_up_ne _ _ nks_k2]; exact h52
  have nk0_k2 : k0 ≠ k2 := fun h => hqk2 (h ▸ m41)
  have m62 : k0 ∈ L56 := by rw [eL56]; exact List.mem_append_left _ m41
  have h63 : f57 k0 = .inr (3, [.double 0, .double 0]) := by rw [ef57, va_up_ne _ _ nk0_k2]; exact h53
  have nk1_k2 : k1 ≠ k2 := fun h => hqk2 (h ▸ m43)
  have m64 : k1 ∈ L56 := by rw [eL56]; exact List.mem_append_left _ m43
  have h65 : f57 k1 = .inr (3, [.double 0, .double 0]) := by rw [ef57, va_up_ne _ _ nk1_k2]; exact h54
  have m66 : k2 ∈ L56 := by rw [eL56]; exact List.mem_append_right _ List.mem_cons_self
  have h67 : f57 k2 = .inr (3, [.double 0, .double 0]) := by rw [ef57]; exact va_up_self _ _ _
  have ni68 : k2 ∉ L := fun h => hqk2 (hs46 _ h)
  have hs69 : ∀ z, z ∈ L → z ∈ L56 := fun z h => by rw [eL56]; exact List.mem_append_left _ (hs46 z h)
  have hr70 : ∀ z, z ∈ L → z ≠ b → f57 z = f z := fun z hz hb => (congrFun ef57 z).trans ((va_up_ne _ _ (fun h : z = k2 => ni68 (h ▸ hz))).trans (hr55 z hz hb))
  refine lv_dup hx hb dX6_init_45 rfl ?_
  refine kN_N (host := RX6) (As := []) (rest := [.ref k2, .int (nI 2), .ref ks]) ⟨hx, hb, hml, hown, hts⟩ (c_X2_init l G dA L56 f57 k2 m66 h67) ⟨va_cnB 0 hts gX6_init_X2_init_n28 rfl rfl rfl (hE.2 _ (by decide +kernel)) (hts (.initialized RX2) (by decide +kernel)) (by decide +kernel) ⟨Nat.le_of_ble_eq_true rfl, Nat.le_of_ble_eq_true rfl⟩, rfl, hts (.instanceMethod yX2_init) (by decide +kernel)⟩ hw hA (fun _ _ => trivial) (fun _ _ _ _ _ => trivial) rfl hl.1 rfl (Nat.le_of_ble_eq_true rfl) dX6_init_46 ⟨Nat.le_of_ble_eq_true rfl, Nat.le_of_ble_eq_true rfl⟩ (fun L71 f72 H locs hp hw => ?_)
  obtain ⟨eL9, ef9⟩ := hp
  have eL9 : L71 = L56 := eL9
  have ef9 : f72 = f57 := ef9
  rw [eL9, ef9] at hw
  refine wst_q6 hx hb hw m60 h61 m66 h67 2 (by decide) (by decide) rfl dX6_init_49 (fun H locs hw => ?_)
  obtain ⟨f73, ef73⟩ : ∃ z : Nat → va_E, z = va_up f57 ks (aQ (dA 6) 4 ((va_up ((va_up ((va_up ((fun _ => none)) 0 (some k0))) 1 (some k1))) 2 (some k2)))) := ⟨_, rfl⟩
  have hw : ww G dA A s L56 f73 H locs := by rw [ef73]; exact hw
  have h74 : f73 b = .inr (7, [.int (nI n), .null, .ref ks, .null, .null, .null, .null, .int 0]) := by rw [ef73, va_up_ne _ _ nb_ks]; exact h59
  have h75 : f73 ks = aQ (dA 6) 4 ((va_up ((va_up ((va_up ((fun _ => none)) 0 (some k0))) 1 (some k1))) 2 (some k2))) := by rw [ef73]; exact va_up_self _ _ _
  have h76 : f73 k0 = .inr (3, [.double 0, .double 0]) := by rw [ef73, va_up_ne _ _ (Ne.symm nks_k0)]; exact h63
  have h77 : f73 k1 = .inr (3, [.double 0, .double 0]) := by rw [ef73, va_up_ne _ _ (Ne.symm nks_k1)]; exact h65
  have h78 : f73 k2 = .inr (3, [.double 0, .double 0]) := by rw [ef73, va_up_ne _ _ (Ne.symm nks_k2)]; exact h67
  have hr79 : ∀ z, z ∈ L → z ≠ b → f73 z = f z := fun z hz hb => (congrFun ef73 z).trans ((va_up_ne _ _ (fun h : z = ks => ni10 (h ▸ hz))).trans (hr70 z hz hb))
  refine lv_iinc (v := nI 3) (lv' := [(3, .int (nI 3)), (0, .ref b), (1, .int v1), (2, .int v2)]) hx hb dX6_init_50 hl (k := 0) rfl (by decide) (by decide) rfl (fun ls hl => ?_)
  refine lv_goto (tgt := 28) hx hb dX6_init_53 (by decide) ?_
  refine lv_iload_n hx hb dX6_init_28 rfl (lv_at hl 0 rfl) ?_
  refine lv_aload_n hx hb dX6_init_29 rfl (lv_at hl 1 rfl) ?_
  refine wg (C := RX6) (T := TX6) (N := 8) hx hb hts hi6 hown hw m58 h74 rfl 2 (by decide) (hts (.fieldLink RX6 24 "LayerMoisture" "kinds" "[LLayerMoisture$Kind;") (by decide +kernel)) (fun _ h9 => h9) (v := .ref ks) rfl dX6_init_30 ?_
  refine wlen hx hb 6 hw m60 h75 rfl dX6_init_33 ?_
  refine lv_icmp_ge (tgt := 56) hx hb dX6_init_34 (by decide) (fun c9 => absurd c9 (show ¬ nI 4 ≤ nI 3 by decide)) (fun _ => ?_)
  refine lv_aload_n hx hb dX6_init_37 rfl (lv_at hl 1 rfl) ?_
  refine wg (C := RX6) (T := TX6) (N := 8) hx hb hts hi6 hown hw m58 h74 rfl 2 (by decide) (hts (.fieldLink RX6 24 "LayerMoisture" "kinds" "[LLayerMoisture$Kind;") (by decide +kernel)) (fun _ h9 => h9) (v := .ref ks) rfl dX6_init_38 ?_
  refine lv_iload_n hx hb dX6_init_41 rfl (lv_at hl 0 rfl) ?_
  refine wnew (C := RX2) (T := TX2) (N := 2) (ci := 3) (fs := [.double 0, .double 0]) hx hb hts hi2 tyX2 tyX2_ok hown (hts (.classLink RX6 22 RX2) (by decide +kernel)) (hts (.instantiable RX2 2) (by decide +kernel)) (hts (.initialized RX2) (by decide +kernel)) hw hA rfl (by decide +kernel) (Nat.le_of_ble_eq_true rfl) (Nat.le_of_ble_eq_true rfl) dX6_init_42 (fun k3 H hqk3 hw => ?_)
  obtain ⟨L80, eL80⟩ : ∃ z : List Nat, z = L56 ++ [k3] := ⟨_, rfl⟩
  obtain ⟨f81, ef81⟩ : ∃ z : Nat → va_E, z = va_up f73 k3 (.inr (3, [.double 0, .double 0])) := ⟨_, rfl⟩
  have hw : ww G dA A s L80 f81 H locs := by rw [eL80, ef81]; exact hw
  have nb_k3 : b ≠ k3 := fun h => hqk3 (h ▸ m58)
  have m82 : b ∈ L80 := by rw [eL80]; exact List.mem_append_left _ m58
  have h83 : f81 b = .inr (7, [.int (nI n), .null, .ref ks, .null, .null, .null, .null, .int 0]) := by rw [ef81, va_up_ne _ _ nb_k3]; exact h74
  have nks_k3 : ks ≠ k3 := fun h => hqk3 (h ▸ m60)
  have m84 : ks ∈ L80 := by rw [eL80]; exact List.mem_append_left _ m60
  have h85 : f81 ks = aQ (dA 6) 4 ((va_up ((va_up ((va_up ((fun _ => none)) 0 (some k0))) 1 (some k1))) 2 (some k2))) := by rw [ef81, va_up_ne _ _ nks_k3]; exact h75
  have nk0_k3 : k0 ≠ k3 := fun h => hqk3 (h ▸ m62)
  have m86 : k0 ∈ L80 := by rw [eL80]; exact List.mem_append_left _ m62
  have h87 : f81 k0 = .inr (3, [.double 0, .double 0]) := by rw [ef81, va_up_ne _ _ nk0_k3]; exact h76
  have nk1_k3 : k1 ≠ k3 := fun h => hqk3 (h ▸ m64)
  have m88 : k1 ∈ L80 := by rw [eL80]; exact List.mem_append_left _ m64
  have h89 : f81 k1 = .inr (3, [.double 0, .double 0]) := by rw [ef81, va_up_ne _ _ nk1_k3]; exact h77
  have nk2_k3 : k2 ≠ k3 := fun h => hqk3 (h ▸ m66)
  have m90 : k2 ∈ L80 := by rw [eL80]; exact List.mem_append_left _ m66
  have h91 : f81 k2 = .inr (3, [.double 0, .double 0]) := by rw [ef81, va_up_ne _ _ nk2_k3]; exact h78
  have m92 : k3 ∈ L80 := by rw [eL80]; exact List.mem_append_right _ List.mem_cons_self
  have h93 : f81 k3 = .inr (3, [.double 0, .double 0]) := by rw [ef81]; exact va_up_self _ _ _
  have ni94 : k3 ∉ L := fun h => hqk3 (hs69 _ h)
  have hs95 : ∀ z, z ∈ L → z ∈ L80 := fun z h => by rw [eL80]; exact List.mem_append_left _ (hs69 z h)
  have hr96 : ∀ z, z ∈ L → z ≠ b → f81 z = f z := fun z hz hb => (congrFun ef81 z).trans ((va_up_ne _ _ (fun h : z = k3 => ni94 (h ▸ hz))).trans (hr79 z hz hb))
  refine lv_dup hx hb dX6_init_45 rfl ?_
  refine kN_N (host := RX6) (As := []) (rest := [.ref k3, .int (nI 3), .ref ks]) ⟨hx, hb, hml, hown, hts⟩ (c_X2_init l G dA L80 f81 k3 m92 h93) ⟨va_cnB 0 hts gX6_init_X2_init_n28 rfl rfl rfl (hE.2 _ (by decide +kernel)) (hts (.initialized RX2) (by decide +kernel)) (by decide +kernel) ⟨Nat.le_of_ble_eq_true rfl, Nat.le_of_ble_eq_true rfl⟩, rfl, hts (.instanceMethod yX2_init) (by decide +kernel)⟩ hw hA (fun _ _ => trivial) (fun _ _ _ _ _ => trivial) rfl hl.1 rfl (Nat.le_of_ble_eq_true rfl) dX6_init_46 ⟨Nat.le_of_ble_eq_true rfl, Nat.le_of_ble_eq_true rfl⟩ (fun L97 f98 H locs hp hw => ?_)
  obtain ⟨eL9, ef9⟩ := hp
  have eL9 : L97 = L80 := eL9
  have ef9 : f98 = f81 := ef9
  rw [eL9, ef9] at hw
  refine wst_q6 hx hb hw m84 h85 m92 h93 3 (by decide) (by decide) rfl dX6_init_49 (fun H locs hw => ?_)
  obtain ⟨f99, ef99⟩ : ∃ z : Nat → va_E, z = va_up f81 ks (aQ (dA 6) 4 ((va_up ((va_up ((va_up ((va_up ((fun _ => none)) 0 (some k0))) 1 (some k1))) 2 (some k2))) 3 (some k3)))) := ⟨_, rfl⟩
  have hw : ww G dA A s L80 f99 H locs := by rw [ef99]; exact hw
  have h100 : f99 b = .inr (7, [.int (nI n), .null, .ref ks, .null, .null, .null, .null, .int 0]) := by rw [ef99, va_up_ne _ _ nb_ks]; exact h83
  have h101 : f99 ks = aQ (dA 6) 4 ((va_up ((va_up ((va_up ((va_up ((fun _ => none)) 0 (some k0))) 1 (some k1))) 2 (some k2))) 3 (some k3))) := by rw [ef99]; exact va_up_self _ _ _
  have h102 : f99 k0 = .inr (3, [.double 0, .double 0]) := by rw [ef99, va_up_ne _ _ (Ne.symm nks_k0)]; exact h87
  have h103 : f99 k1 = .inr (3, [.double 0, .double 0]) := by rw [ef99, va_up_ne _ _ (Ne.symm nks_k1)]; exact h89
  have h104 : f99 k2 = .inr (3, [.double 0, .double 0]) := by rw [ef99, va_up_ne _ _ (Ne.symm nks_k2)]; exact h91
  have h105 : f99 k3 = .inr (3, [.double 0, .double 0]) := by rw [ef99, va_up_ne _ _ (Ne.symm nks_k3)]; exact h93
  have hr106 : ∀ z, z ∈ L → z ≠ b → f99 z = f z := fun z hz hb => (congrFun ef99 z).trans ((va_up_ne _ _ (fun h : z = ks => ni10 (h ▸ hz))).trans (hr96 z hz hb))
  refine lv_iinc (v := nI 4) (lv' := [(3, .int (nI 4)), (0, .ref b), (1, .int v1), (2, .int v2)]) hx hb dX6_init_50 hl (k := 0) rfl (by decide) (by decide) rfl (fun ls hl => ?_)
  refine lv_goto (tgt := 28) hx hb dX6_init_53 (by decide) ?_
  refine lv_iload_n hx hb dX6_init_28 rfl (lv_at hl 0 rfl) ?_
  refine lv_aload_n hx hb dX6_init_29 rfl (lv_at hl 1 rfl) ?_
  refine wg (C := RX6) (T := TX6) (N := 8) hx hb hts hi6 hown hw m82 h100 rfl 2 (by decide) (hts (.fieldLink RX6 24 "LayerMoisture" "kinds" "[LLayerMoisture$Kind;") (by decide +kernel)) (fun _ h9 => h9) (v := .ref ks) rfl dX6_init_30 ?_
  refine wlen hx hb 6 hw m84 h101 rfl dX6_init_33 ?_
  refine lv_icmp_ge (tgt := 56) hx hb dX6_init_34 (by decide) (fun _ => ?_) (fun c9 => absurd (show nI 4 ≤ nI 4 by decide) c9)
  refine lv_aload_n hx hb dX6_init_56 rfl (lv_at hl 1 rfl) ?_
  refine lv_iconst (v := 1) hx hb dX6_init_57 (by decide) ?_
  refine lv_bipush (v := 8) hx hb dX6_init_58 (by decide) ?_
  refine lv_iload_n hx hb dX6_init_60 rfl (lv_at hl 3 rfl) ?_
  refine va_mmin hx hb (by rw [hml]; exact hl.1.symm) hown (hts (.methodLink RX6 9 Lib.Math.min.name) (by decide +kernel)) (hts (.static Lib.Math.min.name) (by decide +kernel)) (hts (.initialized "java/lang/Math") (by decide +kernel)) (hts (.code Lib.Math.min.name Lib.Math.min.code 2 (some .int)) (List.mem_of_getElem? (i := 7) rfl)) (Nat.le_of_ble_eq_true rfl) (Nat.le_of_ble_eq_true rfl) (Nat.le_of_ble_eq_true rfl) (Nat.le_of_ble_eq_true rfl) dX6_init_61 ?_
  refine va_mmax hx hb (by rw [hml]; exact hl.1.symm) hown (hts (.methodLink RX6 15 Lib.Math.max.name) (by decide +kernel)) (hts (.static Lib.Math.max.name) (by decide +kernel)) (hts (.initialized "java/lang/Math") (by decide +kernel)) (hts (.code Lib.Math.max.name Lib.Math.max.code 2 (some .int)) (List.mem_of_getElem? (i := 10) rfl)) (Nat.le_of_ble_eq_true rfl) (Nat.le_of_ble_eq_true rfl) (Nat.le_of_ble_eq_true rfl) (Nat.le_of_ble_eq_true rfl) dX6_init_64 ?_
  rw [show (if 1 < (if v2 < 8 then v2 else 8) then (if v2 < 8 then v2 else 8) else 1) = nI nb from hcb]
  refine wnewq_5 (N' := nb) hx hb hown (hts (.classLink RX6 29 RX1) (by decide +kernel)) hE.1.1 hw hA (nI_pos hnb31) (nI_clamp hnb31) (by omega) (Nat.le_of_ble_eq_true rfl) (show 12 + nb ≤ 467 by omega) dX6_init_67 (fun bs H hqbs hw => ?_)
  obtain ⟨L107, eL107⟩ : ∃ z : List Nat, z = L80 ++ [bs] := ⟨_, rfl⟩
  obtain ⟨f108, ef108⟩ : ∃ z : Nat → va_E, z = va_up f99 bs (aQ (dA 5) nb ((fun _ => none))) := ⟨_, rfl⟩
  have hw : ww G dA A s L107 f108 H locs := by rw [eL107, ef108]; exact hw
  have nb_bs : b ≠ bs := fun h => hqbs (h ▸ m82)
  have m109 : b ∈ L107 := by rw [eL107]; exact List.mem_append_left _ m82
  have h110 : f108 b = .inr (7, [.int (nI n), .null, .ref ks, .null, .null, .null, .null, .int 0]) := by rw [ef108, va_up_ne _ _ nb_bs]; exact h100
  have nks_bs : ks ≠ bs := fun h => hqbs (h ▸ m84)
  have m111 : ks ∈ L107 := by rw [eL107]; exact List.mem_append_left _ m84
  have h112 : f108 ks = aQ (dA 6) 4 ((va_up ((va_up ((va_up ((va_up ((fun _ => none)) 0 (some k0))) 1 (some k1))) 2 (some k2))) 3 (some k3))) := by rw [ef108, va_up_ne _ _ nks_bs]; exact h101
  have nk0_bs : k0 ≠ bs := fun h => hqbs (h ▸ m86)
  have m113 : k0 ∈ L107 := by rw [eL107]; exact List.mem_append_left _ m86
  have h114 : f108 k0 = .inr (3, [.double 0, .double 0]) := by rw [ef108, va_up_ne _ _ nk0_bs]; exact h102
  have nk1_bs : k1 ≠ bs := fun h => hqbs (h ▸ m88)
  have m115 : k1 ∈ L107 := by rw [eL107]; exact List.mem_append_left _ m88
  have h116 : f108 k1 = .inr (3, [.double 0, .double 0]) := by rw [ef108, va_up_ne _ _ nk1_bs]; exact h103
  have nk2_bs : k2 ≠ bs := fun h => hqbs (h ▸ m90)
  have m117 : k2 ∈ L107 := by rw [eL107]; exact List.mem_append_left _ m90
  have h118 : f108 k2 = .inr (3, [.double 0, .double 0]) := by rw [ef108, va_up_ne _ _ nk2_bs]; exact h104
  have nk3_bs : k3 ≠ bs := fun h => hqbs (h ▸ m92)
  have m119 : k3 ∈ L107 := by rw [eL107]; exact List.mem_append_left _ m92
  have h120 : f108 k3 = .inr (3, [.double 0, .double 0]) := by rw [ef108, va_up_ne _ _ nk3_bs]; exact h105
  have m121 : bs ∈ L107 := by rw [eL107]; exact List.mem_append_right _ List.mem_cons_self
  have h122 : f108 bs = aQ (dA 5) nb ((fun _ => none)) := by rw [ef108]; exact va_up_self _ _ _
  have ni123 : bs ∉ L := fun h => hqbs (hs95 _ h)
  have hs124 : ∀ z, z ∈ L → z ∈ L107 := fun z h => by rw [eL107]; exact List.mem_append_left _ (hs95 z h)
  have hr125 : ∀ z, z ∈ L → z ≠ b → f108 z = f z := fun z hz hb => (congrFun ef108 z).trans ((va_up_ne _ _ (fun h : z = bs => ni123 (h ▸ hz))).trans (hr106 z hz hb))
  refine W.widen (k := 6) (n := 20) (by omega) (by omega) ?_
  refine wpF_ (C := RX6) (T := TX6) (N := 8) hx hb hts hi6 tyX6 tyX6_ok nmX6 hown hw m109 h110 rfl 1 (by decide) (hts (.fieldLink RX6 31 "LayerMoisture" "boards" "[LLayerMoisture$Board;") (by decide +kernel)) (fun _ h9 => h9) rfl hin0 rfl (ty := .array (.object "LayerMoisture$Board")) (v := .ref bs) (by decide +kernel) rfl rfl (Nat.le_of_ble_eq_true rfl) dX6_init_70 (fun H locs hw => ?_)
  obtain ⟨f126, ef126⟩ : ∃ z : Nat → va_E, z = va_up f108 b (.inr (7, [.int (nI n), .ref bs, .ref ks, .null, .null, .null, .null, .int 0])) := ⟨_, rfl⟩
  have hw : ww G dA A s L107 f126 H locs := by rw [ef126]; exact hw
  have h127 : f126 b = .inr (7, [.int (nI n), .ref bs, .ref ks, .null, .null, .null, .null, .int 0]) := by rw [ef126]; exact va_up_self _ _ _
  have h128 : f126 ks = aQ (dA 6) 4 ((va_up ((va_up ((va_up ((va_up ((fun _ => none)) 0 (some k0))) 1 (some k1))) 2 (some k2))) 3 (some k3))) := by rw [ef126, va_up_ne _ _ (Ne.symm nb_ks)]; exact h112
  have h129 : f126 k0 = .inr (3, [.double 0, .double 0]) := by rw [ef126, va_up_ne _ _ (Ne.symm nb_k0)]; exact h114
  have h130 : f126 k1 = .inr (3, [.double 0, .double 0]) := by rw [ef126, va_up_ne _ _ (Ne.symm nb_k1)]; exact h116
  have h131 : f126 k2 = .inr (3, [.double 0, .double 0]) := by rw [ef126, va_up_ne _ _ (Ne.symm nb_k2)]; exact h118
  have h132 : f126 k3 = .inr (3, [.double 0, .double 0]) := by rw [ef126, va_up_ne _ _ (Ne.symm nb_k3)]; exact h120
  have h133 : f126 bs = aQ (dA 5) nb ((fun _ => none)) := by rw [ef126, va_up_ne _ _ (Ne.symm nb_bs)]; exact h122
  have hr134 : ∀ z, z ∈ L → z ≠ b → f126 z = f z := fun z hz hb => (congrFun ef126 z).trans ((va_up_ne _ _ hb).trans (hr125 z hz hb))
  refine lv_iconst (v := 0) hx hb dX6_init_73 (by decide) ?_
  refine lv_istore_n (lv' := [(3, .int 0), (0, .ref b), (1, .int v1), (2, .int v2)]) hx hb dX6_init_74 rfl hl (by decide) rfl (fun ls hl => ?_)
  have loop : ∀ (kf i : Nat), i + kf = nb → ∀ (bl : List Nat) (qf : Nat → Option Nat) (fb : Nat → va_E) (H : Heap) (locs : List Loc), bl.length = 2 * i → (∀ j, j < i → qf j = some (bl.getD (2 * j) 0)) → (∀ j, j < i → fb (bl.getD (2 * j) 0) = .inr (2, [.ref (bl.getD (2 * j + 1) 0), .ref k0, .int 0, .double 0, .int 0, .double 0, .int 0]) ∧ fb (bl.getD (2 * j + 1) 0) = aD (dA 1) n (fun _ => 0)) → fb b = .inr (7, [.int (nI n), .ref bs, .ref ks, .null, .null, .null, .null, .int 0]) → fb ks = aQ (dA 6) 4 ((va_up ((va_up ((va_up ((va_up ((fun _ => none)) 0 (some k0))) 1 (some k1))) 2 (some k2))) 3 (some k3))) → fb k0 = .inr (3, [.double 0, .double 0]) → fb k1 = .inr (3, [.double 0, .double 0]) → fb k2 = .inr (3, [.double 0, .double 0]) → fb k3 = .inr (3, [.double 0, .double 0]) → fb bs = aQ (dA 5) nb qf → (∀ z, z ∈ L → z ≠ b → fb z = f z) → ww G dA A s (L107 ++ bl) fb H locs → ∀ (ls : Array Slot), lv_has ls 4 [(0, .ref b), (1, .int v1), (2, .int v2), (3, .int (nI i))] → W p l e ({ frames := 2, cells := 31, slots := 467, locals := 42 } : Room) s m ([.ref b, .int v1, .int v2] : List Value).toArray below meth c H locs (6 + 2 * i) (20 + 23 * i) Q (F0 m 75 ls []) := by
    intro kf
    induction kf with
    | zero =>
      intro i hik bl qf fb H locs hbl hqf hbd t_b t_ks t_k0 t_k1 t_k2 t_k3 t_bs hfrb hw ls hl
      rw [show i = nb by omega] at hl hbl hqf hbd
      refine W.widen (k := 22) (n := 204) (by omega) (by omega) ?_
      obtain ⟨LB, eLB⟩ : ∃ z : List Nat, z = L107 ++ bl := ⟨_, rfl⟩
      have hw : ww G dA A s LB fb H locs := by rw [eLB]; exact hw
      have hsubB : ∀ z, z ∈ L107 → z ∈ LB := fun z h => by rw [eLB]; exact List.mem_append_left _ h
      have hsubL : ∀ z, z ∈ L → z ∈ LB := fun z h => hsubB z (hs124 z h)
      have hmemb : ∀ j, j < nb → bl.getD (2 * j) 0 ∈ LB ∧ bl.getD (2 * j + 1) 0 ∈ LB := fun j hj => by rw [eLB, List.getD_eq_getElem?_getD, List.getD_eq_getElem?_getD, List.getElem?_eq_getElem (show 2 * j < bl.length by omega), List.getElem?_eq_getElem (show 2 * j + 1 < bl.length by omega)]; exact ⟨List.mem_append_right _ (List.getElem_mem _), List.mem_append_right _ (List.getElem_mem _)⟩
      refine lv_iload_n hx hb dX6_init_75 rfl (lv_at hl 3 rfl) ?_
      refine lv_aload_n hx hb dX6_init_76 rfl (lv_at hl 0 rfl) ?_
      refine wg (C := RX6) (T := TX6) (N := 8) hx hb hts hi6 hown hw (hsubB _ m109) t_b rfl 1 (by decide) (hts (.fieldLink RX6 31 "LayerMoisture" "boards" "[LLayerMoisture$Board;") (by decide +kernel)) (fun _ h9 => h9) (v := .ref bs) rfl dX6_init_77 ?_
      refine wlen hx hb 5 hw (hsubB _ m121) t_bs rfl dX6_init_80 ?_
      refine lv_icmp_ge (tgt := 113) hx hb dX6_init_81 (by decide) (fun _ => ?_) (fun c9 => absurd (nI_le (Nat.le_refl _) hnb31) c9)
      refine lv_aload_n hx hb dX6_init_113 rfl (lv_at hl 0 rfl) ?_
      refine wnew (C := RX0) (T := TX0) (N := 4) (ci := 1) (fs := [.double 0, .double 0, .double 0, .double 0]) hx hb hts hi0 tyX0 tyX0_ok hown (hts (.classLink RX6 38 RX0) (by decide +kernel)) (hts (.instantiable RX0 4) (by decide +kernel)) (hts (.initialized RX0) (by decide +kernel)) hw hA rfl (by decide +kernel) (Nat.le_of_ble_eq_true rfl) (Nat.le_of_ble_eq_true rfl) dX6_init_114 (fun ar H hqar hw => ?_)
      obtain ⟨L135, eL135⟩ : ∃ z : List Nat, z = LB ++ [ar] := ⟨_, rfl⟩
      obtain ⟨f136, ef136⟩ : ∃ z : Nat → va_E, z = va_up fb ar (.inr (1, [.double 0, .double 0, .double 0, .double 0])) := ⟨_, rfl⟩
      have hw : ww G dA A s L135 f136 H locs := by rw [eL135, ef136]; exact hw
      have nb_ar : b ≠ ar := fun h => hqar (h ▸ (hsubB _ m109))
      have m137 : b ∈ L135 := by rw [eL135]; exact List.mem_append_left _ (hsubB _ m109)
      have h138 : f136 b = .inr (7, [.int (nI n), .ref bs, .ref ks, .null, .null, .null, .null, .int 0]) := by rw [ef136, va_up_ne _ _ nb_ar]; exact t_b
      have nks_ar : ks ≠ ar := fun h => hqar (h ▸ (hsubB _ m111))
      have m139 : ks ∈ L135 := by rw [eL135]; exact List.mem_append_left _ (hsubB _ m111)
      have h140 : f136 ks = aQ (dA 6) 4 ((va_up ((va_up ((va_up ((va_up ((fun _ => none)) 0 (some k0))) 1 (some k1))) 2 (some k2))) 3 (some k3))) := by rw [ef136, va_up_ne _ _ nks_ar]; exact t_ks
      have nk0_ar : k0 ≠ ar := fun h => hqar (h ▸ (hsubB _ m113))
      have m141 : k0 ∈ L135 := by rw [eL135]; exact List.mem_append_left _ (hsubB _ m113)
      have h142 : f136 k0 = .inr (3, [.double 0, .double 0]) := by rw [ef136, va_up_ne _ _ nk0_ar]; exact t_k0
      have nk1_ar : k1 ≠ ar := fun h => hqar (h ▸ (hsubB _ m115))
      have m143 : k1 ∈ L135 := by rw [eL135]; exact List.mem_append_left _ (hsubB _ m115)
      have h144 : f136 k1 = .inr (3, [.double 0, .double 0]) := by rw [ef136, va_up_ne _ _ nk1_ar]; exact t_k1
      have nk2_ar : k2 ≠ ar := fun h => hqar (h ▸ (hsubB _ m117))
      have m145 : k2 ∈ L135 := by rw [eL135]; exact List.mem_append_left _ (hsubB _ m117)
      have h146 : f136 k2 = .inr (3, [.double 0, .double 0]) := by rw [ef136, va_up_ne _ _ nk2_ar]; exact t_k2
      have nk3_ar : k3 ≠ ar := fun h => hqar (h ▸ (hsubB _ m119))
      have m147 : k3 ∈ L135 := by rw [eL135]; exact List.mem_append_left _ (hsubB _ m119)
      have h148 : f136 k3 = .inr (3, [.double 0, .double 0]) := by rw [ef136, va_up_ne _ _ nk3_ar]; exact t_k3
      have nbs_ar : bs ≠ ar := fun h => hqar (h ▸ (hsubB _ m121))
      have m149 : bs ∈ L135 := by rw [eL135]; exact List.mem_append_left _ (hsubB _ m121)
      have h150 : f136 bs = aQ (dA 5) nb qf := by rw [ef136, va_up_ne _ _ nbs_ar]; exact t_bs
      have m151 : ar ∈ L135 := by rw [eL135]; exact List.mem_append_right _ List.mem_cons_self
      have h152 : f136 ar = .inr (1, [.double 0, .double 0, .double 0, .double 0]) := by rw [ef136]; exact va_up_self _ _ _
      have ni153 : ar ∉ L := fun h => hqar (hsubL _ h)
      have hs154 : ∀ z, z ∈ L → z ∈ L135 := fun z h => by rw [eL135]; exact List.mem_append_left _ (hsubL z h)
      have hr155 : ∀ z, z ∈ L → z ≠ b → f136 z = f z := fun z hz hb => (congrFun ef136 z).trans ((va_up_ne _ _ (fun h : z = ar => ni153 (h ▸ hz))).trans (hfrb z hz hb))
      have hB156 : ∀ j, j < nb → f136 (bl.getD (2 * j) 0) = .inr (2, [.ref (bl.getD (2 * j + 1) 0), .ref k0, .int 0, .double 0, .int 0, .double 0, .int 0]) ∧ f136 (bl.getD (2 * j + 1) 0) = aD (dA 1) n (fun _ => 0) := fun j hj => by obtain ⟨o1, o2⟩ := hbd j hj; obtain ⟨z1, z2⟩ := hmemb j hj; rw [ef136, va_up_ne _ _ (fun h : bl.getD (2 * j) 0 = ar => hqar (h ▸ z1)), va_up_ne _ _ (fun h : bl.getD (2 * j + 1) 0 = ar => hqar (h ▸ z2))]; exact ⟨o1, o2⟩
      have hM157 : ∀ j, j < nb → bl.getD (2 * j) 0 ∈ L135 ∧ bl.getD (2 * j + 1) 0 ∈ L135 := fun j hj => by obtain ⟨z1, z2⟩ := hmemb j hj; rw [eL135]; exact ⟨List.mem_append_left _ z1, List.mem_append_left _ z2⟩
      refine lv_dup hx hb dX6_init_117 rfl ?_
      refine kN_N (host := RX6) (As := []) (rest := [.ref ar, .ref b]) ⟨hx, hb, hml, hown, hts⟩ (c_X0_init l G dA L135 f136 ar m151 h152) ⟨va_cnB 0 hts gX6_init_X0_init_n40 rfl rfl rfl (hE.2 _ (by decide +kernel)) (hts (.initialized RX0) (by decide +kernel)) (by decide +kernel) ⟨Nat.le_of_ble_eq_true rfl, Nat.le_of_ble_eq_true rfl⟩, rfl, hts (.instanceMethod yX0_init) (by decide +kernel)⟩ hw hA (fun _ _ => trivial) (fun _ _ _ _ _ => trivial) rfl hl.1 rfl (Nat.le_of_ble_eq_true rfl) dX6_init_118 ⟨Nat.le_of_ble_eq_true rfl, Nat.le_of_ble_eq_true rfl⟩ (fun L158 f159 H locs hp hw => ?_)
      obtain ⟨eL9, hq9, hf9⟩ := hp
      have eL158 : L158 = L135 := eL9
      have hsb : ∀ z, z ∈ L135 → z ∈ L158 := fun z h => by rw [eL158]; exact h
      have h160 : f159 ar = .inr (1, [.double 4643862126702624768, .double 4602678819172646912, .double FP.dconst1, .double FP.dconst0]) := hq9
      have hz161 : ∀ z, z ∈ L135 → z ≠ ar → f159 z = f136 z := hf9
      have m162 : b ∈ L158 := hsb _ m137
      have h163 : f159 b = .inr (7, [.int (nI n), .ref bs, .ref ks, .null, .null, .null, .null, .int 0]) := (hz161 _ m137 nb_ar).trans h138
      have m164 : ks ∈ L158 := hsb _ m139
      have h165 : f159 ks = aQ (dA 6) 4 ((va_up ((va_up ((va_up ((va_up ((fun _ => none)) 0 (some k0))) 1 (some k1))) 2 (some k2))) 3 (some k3))) := (hz161 _ m139 nks_ar).trans h140
      have m166 : k0 ∈ L158 := hsb _ m141
      have h167 : f159 k0 = .inr (3, [.double 0, .double 0]) := (hz161 _ m141 nk0_ar).trans h142
      have m168 : k1 ∈ L158 := hsb _ m143
      have h169 : f159 k1 = .inr (3, [.double 0, .double 0]) := (hz161 _ m143 nk1_ar).trans h144
      have m170 : k2 ∈ L158 := hsb _ m145
      have h171 : f159 k2 = .inr (3, [.double 0, .double 0]) := (hz161 _ m145 nk2_ar).trans h146
      have m172 : k3 ∈ L158 := hsb _ m147
      have h173 : f159 k3 = .inr (3, [.double 0, .double 0]) := (hz161 _ m147 nk3_ar).trans h148
      have m174 : bs ∈ L158 := hsb _ m149
      have h175 : f159 bs = aQ (dA 5) nb qf := (hz161 _ m149 nbs_ar).trans h150
      have m176 : ar ∈ L158 := hsb _ m151
      have hs177 : ∀ z, z ∈ L → z ∈ L158 := fun z h => hsb z (hs154 z h)
      have hr178 : ∀ z, z ∈ L → z ≠ b → f159 z = f z := fun z hz hb => (hz161 z (hs154 z hz) (fun h : z = ar => ni153 (h ▸ hz))).trans (hr155 z hz hb)
      have hB179 : ∀ j, j < nb → f159 (bl.getD (2 * j) 0) = .inr (2, [.ref (bl.getD (2 * j + 1) 0), .ref k0, .int 0, .double 0, .int 0, .double 0, .int 0]) ∧ f159 (bl.getD (2 * j + 1) 0) = aD (dA 1) n (fun _ => 0) := fun j hj => by obtain ⟨o1, o2⟩ := hB156 j hj; obtain ⟨z1, z2⟩ := hM157 j hj; rw [hz161 _ z1 (fun h => by rw [h, h152] at o1; cases o1), hz161 _ z2 (fun h => by rw [h, h152] at o2; cases o2)]; exact ⟨o1, o2⟩
      have hM180 : ∀ j, j < nb → bl.getD (2 * j) 0 ∈ L158 ∧ bl.getD (2 * j + 1) 0 ∈ L158 := fun j hj => ⟨hsb _ (hM157 j hj).1, hsb _ (hM157 j hj).2⟩
      refine wpF_ (C := RX6) (T := TX6) (N := 8) hx hb hts hi6 tyX6 tyX6_ok nmX6 hown hw m162 h163 rfl 3 (by decide) (hts (.fieldLink RX6 41 "LayerMoisture" "state" "LLayerMoisture$Air;") (by decide +kernel)) (fun _ h9 => h9) rfl hin0 rfl (ty := .object "LayerMoisture$Air") (v := .ref ar) (by decide +kernel) rfl rfl (Nat.le_of_ble_eq_true rfl) dX6_init_121 (fun H locs hw => ?_)
      obtain ⟨f181, ef181⟩ : ∃ z : Nat → va_E, z = va_up f159 b (.inr (7, [.int (nI n), .ref bs, .ref ks, .ref ar, .null, .null, .null, .int 0])) := ⟨_, rfl⟩
      have hw : ww G dA A s L158 f181 H locs := by rw [ef181]; exact hw
      have h182 : f181 b = .inr (7, [.int (nI n), .ref bs, .ref ks, .ref ar, .null, .null, .null, .int 0]) := by rw [ef181]; exact va_up_self _ _ _
      have h183 : f181 ks = aQ (dA 6) 4 ((va_up ((va_up ((va_up ((va_up ((fun _ => none)) 0 (some k0))) 1 (some k1))) 2 (some k2))) 3 (some k3))) := by rw [ef181, va_up_ne _ _ (Ne.symm nb_ks)]; exact h165
      have h184 : f181 k0 = .inr (3, [.double 0, .double 0]) := by rw [ef181, va_up_ne _ _ (Ne.symm nb_k0)]; exact h167
      have h185 : f181 k1 = .inr (3, [.double 0, .double 0]) := by rw [ef181, va_up_ne _ _ (Ne.symm nb_k1)]; exact h169
      have h186 : f181 k2 = .inr (3, [.double 0, .double 0]) := by rw [ef181, va_up_ne _ _ (Ne.symm nb_k2)]; exact h171
      have h187 : f181 k3 = .inr (3, [.double 0, .double 0]) := by rw [ef181, va_up_ne _ _ (Ne.symm nb_k3)]; exact h173
      have h188 : f181 bs = aQ (dA 5) nb qf := by rw [ef181, va_up_ne _ _ (Ne.symm nb_bs)]; exact h175
      have h189 : f181 ar = .inr (1, [.double 4643862126702624768, .double 4602678819172646912, .double FP.dconst1, .double FP.dconst0]) := by rw [ef181, va_up_ne _ _ (Ne.symm nb_ar)]; exact h160
      have hr190 : ∀ z, z ∈ L → z ≠ b → f181 z = f z := fun z hz hb => (congrFun ef181 z).trans ((va_up_ne _ _ hb).trans (hr178 z hz hb))
      have hB191 : ∀ j, j < nb → f181 (bl.getD (2 * j) 0) = .inr (2, [.ref (bl.getD (2 * j + 1) 0), .ref k0, .int 0, .double 0, .int 0, .double 0, .int 0]) ∧ f181 (bl.getD (2 * j + 1) 0) = aD (dA 1) n (fun _ => 0) := fun j hj => by obtain ⟨o1, o2⟩ := hB179 j hj; rw [ef181, va_up_ne _ _ (fun h => by rw [h, h163] at o1; cases o1), va_up_ne _ _ (fun h => by rw [h, h163] at o2; cases o2)]; exact ⟨o1, o2⟩
      refine lv_aload_n hx hb dX6_init_124 rfl (lv_at hl 0 rfl) ?_
      refine wnew (C := RX3) (T := TX3) (N := 2) (ci := 4) (fs := [.double 0, .long 0]) hx hb hts hi3 tyX3 tyX3_ok hown (hts (.classLink RX6 45 RX3) (by decide +kernel)) (hts (.instantiable RX3 2) (by decide +kernel)) (hts (.initialized RX3) (by decide +kernel)) hw hA rfl (by decide +kernel) (Nat.le_of_ble_eq_true rfl) (Nat.le_of_ble_eq_true rfl) dX6_init_125 (fun le H hqle hw => ?_)
      obtain ⟨L192, eL192⟩ : ∃ z : List Nat, z = L158 ++ [le] := ⟨_, rfl⟩
      obtain ⟨f193, ef193⟩ : ∃ z : Nat → va_E, z = va_up f181 le (.inr (4, [.double 0, .long 0])) := ⟨_, rfl⟩
      have hw : ww G dA A s L192 f193 H locs := by rw [eL192, ef193]; exact hw
      have nb_le : b ≠ le := fun h => hqle (h ▸ m162)
      have m194 : b ∈ L192 := by rw [eL192]; exact List.mem_append_left _ m162
      have h195 : f193 b = .inr (7, [.int (nI n), .ref bs, .ref ks, .ref ar, .null, .null, .null, .int 0]) := by rw [ef193, va_up_ne _ _ nb_le]; exact h182
      have nks_le : ks ≠ le := fun h => hqle (h ▸ m164)
      have m196 : ks ∈ L192 := by rw [eL192]; exact List.mem_append_left _ m164
      have h197 : f193 ks = aQ (dA 6) 4 ((va_up ((va_up ((va_up ((va_up ((fun _ => none)) 0 (some k0))) 1 (some k1))) 2 (some k2))) 3 (some k3))) := by rw [ef193, va_up_ne _ _ nks_le]; exact h183
      have nk0_le : k0 ≠ le := fun h => hqle (h ▸ m166)
      have m198 : k0 ∈ L192 := by rw [eL192]; exact List.mem_append_left _ m166
      have h199 : f193 k0 = .inr (3, [.double 0, .double 0]) := by rw [ef193, va_up_ne _ _ nk0_le]; exact h184
      have nk1_le : k1 ≠ le := fun h => hqle (h ▸ m168)
      have m200 : k1 ∈ L192 := by rw [eL192]; exact List.mem_append_left _ m168
      have h201 : f193 k1 = .inr (3, [.double 0, .double 0]) := by rw [ef193, va_up_ne _ _ nk1_le]; exact h185
      have nk2_le : k2 ≠ le := fun h => hqle (h ▸ m170)
      have m202 : k2 ∈ L192 := by rw [eL192]; exact List.mem_append_left _ m170
      have h203 : f193 k2 = .inr (3, [.double 0, .double 0]) := by rw [ef193, va_up_ne _ _ nk2_le]; exact h186
      have nk3_le : k3 ≠ le := fun h => hqle (h ▸ m172)
      have m204 : k3 ∈ L192 := by rw [eL192]; exact List.mem_append_left _ m172
      have h205 : f193 k3 = .inr (3, [.double 0, .double 0]) := by rw [ef193, va_up_ne _ _ nk3_le]; exact h187
      have nbs_le : bs ≠ le := fun h => hqle (h ▸ m174)
      have m206 : bs ∈ L192 := by rw [eL192]; exact List.mem_append_left _ m174
      have h207 : f193 bs = aQ (dA 5) nb qf := by rw [ef193, va_up_ne _ _ nbs_le]; exact h188
      have nar_le : ar ≠ le := fun h => hqle (h ▸ m176)
      have m208 : ar ∈ L192 := by rw [eL192]; exact List.mem_append_left _ m176
      have h209 : f193 ar = .inr (1, [.double 4643862126702624768, .double 4602678819172646912, .double FP.dconst1, .double FP.dconst0]) := by rw [ef193, va_up_ne _ _ nar_le]; exact h189
      have m210 : le ∈ L192 := by rw [eL192]; exact List.mem_append_right _ List.mem_cons_self
      have h211 : f193 le = .inr (4, [.double 0, .long 0]) := by rw [ef193]; exact va_up_self _ _ _
      have ni212 : le ∉ L := fun h => hqle (hs177 _ h)
      have hs213 : ∀ z, z ∈ L → z ∈ L192 := fun z h => by rw [eL192]; exact List.mem_append_left _ (hs177 z h)
      have hr214 : ∀ z, z ∈ L → z ≠ b → f193 z = f z := fun z hz hb => (congrFun ef193 z).trans ((va_up_ne _ _ (fun h : z = le => ni212 (h ▸ hz))).trans (hr190 z hz hb))
      have hB215 : ∀ j, j < nb → f193 (bl.getD (2 * j) 0) = .inr (2, [.ref (bl.getD (2 * j + 1) 0), .ref k0, .int 0, .double 0, .int 0, .double 0, .int 0]) ∧ f193 (bl.getD (2 * j + 1) 0) = aD (dA 1) n (fun _ => 0) := fun j hj => by obtain ⟨o1, o2⟩ := hB191 j hj; obtain ⟨z1, z2⟩ := hM180 j hj; rw [ef193, va_up_ne _ _ (fun h : bl.getD (2 * j) 0 = le => hqle (h ▸ z1)), va_up_ne _ _ (fun h : bl.getD (2 * j + 1) 0 = le => hqle (h ▸ z2))]; exact ⟨o1, o2⟩
      have hM216 : ∀ j, j < nb → bl.getD (2 * j) 0 ∈ L192 ∧ bl.getD (2 * j + 1) 0 ∈ L192 := fun j hj => by obtain ⟨z1, z2⟩ := hM180 j hj; rw [eL192]; exact ⟨List.mem_append_left _ z1, List.mem_append_left _ z2⟩
      refine lv_dup hx hb dX6_init_128 rfl ?_
      refine kN_N (host := RX6) (As := []) (rest := [.ref le, .ref b]) ⟨hx, hb, hml, hown, hts⟩ (c_X3_init l G dA L192 f193 le m210 h211) ⟨va_cnB 0 hts gX6_init_X3_init_n47 rfl rfl rfl (hE.2 _ (by decide +kernel)) (hts (.initialized RX3) (by decide +kernel)) (by decide +kernel) ⟨Nat.le_of_ble_eq_true rfl, Nat.le_of_ble_eq_true rfl⟩, rfl, hts (.instanceMethod yX3_init) (by decide +kernel)⟩ hw hA (fun _ _ => trivial) (fun _ _ _ _ _ => trivial) rfl hl.1 rfl (Nat.le_of_ble_eq_true rfl) dX6_init_129 ⟨Nat.le_of_ble_eq_true rfl, Nat.le_of_ble_eq_true rfl⟩ (fun L217 f218 H locs hp hw => ?_)
      obtain ⟨eL9, ef9⟩ := hp
      have eL9 : L217 = L192 := eL9
      have ef9 : f218 = f193 := ef9
      rw [eL9, ef9] at hw
      refine wpF_ (C := RX6) (T := TX6) (N := 8) hx hb hts hi6 tyX6 tyX6_ok nmX6 hown hw m194 h195 rfl 4 (by decide) (hts (.fieldLink RX6 48 "LayerMoisture" "ledger" "LLayerMoisture$Ledger;") (by decide +kernel)) (fun _ h9 => h9) rfl hin0 rfl (ty := .object "LayerMoisture$Ledger") (v := .ref le) (by decide +kernel) rfl rfl (Nat.le_of_ble_eq_true rfl) dX6_init_132 (fun H locs hw => ?_)
      obtain ⟨f219, ef219⟩ : ∃ z : Nat → va_E, z = va_up f193 b (.inr (7, [.int (nI n), .ref bs, .ref ks, .ref ar, .ref le, .null, .null, .int 0])) := ⟨_, rfl⟩
      have hw : ww G dA A s L192 f219 H locs := by rw [ef219]; exact hw
      have h220 : f219 b = .inr (7, [.int (nI n), .ref bs, .ref ks, .ref ar, .ref le, .null, .null, .int 0]) := by rw [ef219]; exact va_up_self _ _ _
      have h221 : f219 ks = aQ (dA 6) 4 ((va_up ((va_up ((va_up ((va_up ((fun _ => none)) 0 (some k0))) 1 (some k1))) 2 (some k2))) 3 (some k3))) := by rw [ef219, va_up_ne _ _ (Ne.symm nb_ks)]; exact h197
      have h222 : f219 k0 = .inr (3, [.double 0, .double 0]) := by rw [ef219, va_up_ne _ _ (Ne.symm nb_k0)]; exact h199
      have h223 : f219 k1 = .inr (3, [.double 0, .double 0]) := by rw [ef219, va_up_ne _ _ (Ne.symm nb_k1)]; exact h201
      have h224 : f219 k2 = .inr (3, [.double 0, .double 0]) := by rw [ef219, va_up_ne _ _ (Ne.symm nb_k2)]; exact h203
      have h225 : f219 k3 = .inr (3, [.double 0, .double 0]) := by rw [ef219, va_up_ne _ _ (Ne.symm nb_k3)]; exact h205
      have h226 : f219 bs = aQ (dA 5) nb qf := by rw [ef219, va_up_ne _ _ (Ne.symm nb_bs)]; exact h207
      have h227 : f219 ar = .inr (1, [.double 4643862126702624768, .double 4602678819172646912, .double FP.dconst1, .double FP.dconst0]) := by rw [ef219, va_up_ne _ _ (Ne.symm nb_ar)]; exact h209
      have h228 : f219 le = .inr (4, [.double 0, .long 0]) := by rw [ef219, va_up_ne _ _ (Ne.symm nb_le)]; exact h211
      have hr229 : ∀ z, z ∈ L → z ≠ b → f219 z = f z := fun z hz hb => (congrFun ef219 z).trans ((va_up_ne _ _ hb).trans (hr214 z hz hb))
      have hB230 : ∀ j, j < nb → f219 (bl.getD (2 * j) 0) = .inr (2, [.ref (bl.getD (2 * j + 1) 0), .ref k0, .int 0, .double 0, .int 0, .double 0, .int 0]) ∧ f219 (bl.getD (2 * j + 1) 0) = aD (dA 1) n (fun _ => 0) := fun j hj => by obtain ⟨o1, o2⟩ := hB215 j hj; rw [ef219, va_up_ne _ _ (fun h => by rw [h, h195] at o1; cases o1), va_up_ne _ _ (fun h => by rw [h, h195] at o2; cases o2)]; exact ⟨o1, o2⟩
      refine lv_aload_n hx hb dX6_init_135 rfl (lv_at hl 0 rfl) ?_
      refine wnew (C := RX5) (T := TX5) (N := 3) (ci := 6) (fs := [.null, .int 0, .int 0]) hx hb hts hi5 tyX5 tyX5_ok hown (hts (.classLink RX6 52 RX5) (by decide +kernel)) (hts (.instantiable RX5 3) (by decide +kernel)) (hts (.initialized RX5) (by decide +kernel)) hw hA rfl (by decide +kernel) (Nat.le_of_ble_eq_true rfl) (Nat.le_of_ble_eq_true rfl) dX6_init_136 (fun tx H hqtx hw => ?_)
      obtain ⟨L231, eL231⟩ : ∃ z : List Nat, z = L192 ++ [tx] := ⟨_, rfl⟩
      obtain ⟨f232, ef232⟩ : ∃ z : Nat → va_E, z = va_up f219 tx (.inr (6, [.null, .int 0, .int 0])) := ⟨_, rfl⟩
      have hw : ww G dA A s L231 f232 H locs := by rw [eL231, ef232]; exact hw
      have nb_tx : b ≠ tx := fun h => hqtx (h ▸ m194)
      have m233 : b ∈ L231 := by rw [eL231]; exact List.mem_append_left _ m194
      have h234 : f232 b = .inr (7, [.int (nI n), .ref bs, .ref ks, .ref ar, .ref le, .null, .null, .int 0]) := by rw [ef232, va_up_ne _ _ nb_tx]; exact h220
      have nks_tx : ks ≠ tx := fun h => hqtx (h ▸ m196)
      have m235 : ks ∈ L231 := by rw [eL231]; exact List.mem_append_left _ m196
      have h236 : f232 ks = aQ (dA 6) 4 ((va_up ((va_up ((va_up ((va_up ((fun _ => none)) 0 (some k0))) 1 (some k1))) 2 (some k2))) 3 (some k3))) := by rw [ef232, va_up_ne _ _ nks_tx]; exact h221
      have nk0_tx : k0 ≠ tx := fun h => hqtx (h ▸ m198)
      have m237 : k0 ∈ L231 := by rw [eL231]; exact List.mem_append_left _ m198
      have h238 : f232 k0 = .inr (3, [.double 0, .double 0]) := by rw [ef232, va_up_ne _ _ nk0_tx]; exact h222
      have nk1_tx : k1 ≠ tx := fun h => hqtx (h ▸ m200)
      have m239 : k1 ∈ L231 := by rw [eL231]; exact List.mem_append_left _ m200
      have h240 : f232 k1 = .inr (3, [.double 0, .double 0]) := by rw [ef232, va_up_ne _ _ nk1_tx]; exact h223
      have nk2_tx : k2 ≠ tx := fun h => hqtx (h ▸ m202)
      have m241 : k2 ∈ L231 := by rw [eL231]; exact List.mem_append_left _ m202
      have h242 : f232 k2 = .inr (3, [.double 0, .double 0]) := by rw [ef232, va_up_ne _ _ nk2_tx]; exact h224
      have nk3_tx : k3 ≠ tx := fun h => hqtx (h ▸ m204)
      have m243 : k3 ∈ L231 := by rw [eL231]; exact List.mem_append_left _ m204
      have h244 : f232 k3 = .inr (3, [.double 0, .double 0]) := by rw [ef232, va_up_ne _ _ nk3_tx]; exact h225
      have nbs_tx : bs ≠ tx := fun h => hqtx (h ▸ m206)
      have m245 : bs ∈ L231 := by rw [eL231]; exact List.mem_append_left _ m206
      have h246 : f232 bs = aQ (dA 5) nb qf := by rw [ef232, va_up_ne _ _ nbs_tx]; exact h226
      have nar_tx : ar ≠ tx := fun h => hqtx (h ▸ m208)
      have m247 : ar ∈ L231 := by rw [eL231]; exact List.mem_append_left _ m208
      have h248 : f232 ar = .inr (1, [.double 4643862126702624768, .double 4602678819172646912, .double FP.dconst1, .double FP.dconst0]) := by rw [ef232, va_up_ne _ _ nar_tx]; exact h227
      have nle_tx : le ≠ tx := fun h => hqtx (h ▸ m210)
      have m249 : le ∈ L231 := by rw [eL231]; exact List.mem_append_left _ m210
      have h250 : f232 le = .inr (4, [.double 0, .long 0]) := by rw [ef232, va_up_ne _ _ nle_tx]; exact h228
      have m251 : tx ∈ L231 := by rw [eL231]; exact List.mem_append_right _ List.mem_cons_self
      have h252 : f232 tx = .inr (6, [.null, .int 0, .int 0]) := by rw [ef232]; exact va_up_self _ _ _
      have ni253 : tx ∉ L := fun h => hqtx (hs213 _ h)
      have hs254 : ∀ z, z ∈ L → z ∈ L231 := fun z h => by rw [eL231]; exact List.mem_append_left _ (hs213 z h)
      have hr255 : ∀ z, z ∈ L → z ≠ b → f232 z = f z := fun z hz hb => (congrFun ef232 z).trans ((va_up_ne _ _ (fun h : z = tx => ni253 (h ▸ hz))).trans (hr229 z hz hb))
      have hB256 : ∀ j, j < nb → f232 (bl.getD (2 * j) 0) = .inr (2, [.ref (bl.getD (2 * j + 1) 0), .ref k0, .int 0, .double 0, .int 0, .double 0, .int 0]) ∧ f232 (bl.getD (2 * j + 1) 0) = aD (dA 1) n (fun _ => 0) := fun j hj => by obtain ⟨o1, o2⟩ := hB230 j hj; obtain ⟨z1, z2⟩ := hM216 j hj; rw [ef232, va_up_ne _ _ (fun h : bl.getD (2 * j) 0 = tx => hqtx (h ▸ z1)), va_up_ne _ _ (fun h : bl.getD (2 * j + 1) 0 = tx => hqtx (h ▸ z2))]; exact ⟨o1, o2⟩
      have hM257 : ∀ j, j < nb → bl.getD (2 * j) 0 ∈ L231 ∧ bl.getD (2 * j + 1) 0 ∈ L231 := fun j hj => by obtain ⟨z1, z2⟩ := hM216 j hj; rw [eL231]; exact ⟨List.mem_append_left _ z1, List.mem_append_left _ z2⟩
      refine lv_dup hx hb dX6_init_139 rfl ?_
      refine kN_N (host := RX6) (As := []) (rest := [.ref tx, .ref b]) ⟨hx, hb, hml, hown, hts⟩ (c_X5_init l G dA L231 f232 tx m251 h252) ⟨va_cnB 0 hts gX6_init_X5_init_n54 rfl rfl rfl (hE.2 _ (by decide +kernel)) (hts (.initialized RX5) (by decide +kernel)) (by decide +kernel) ⟨Nat.le_of_ble_eq_true rfl, Nat.le_of_ble_eq_true rfl⟩, rfl, hts (.instanceMethod yX5_init) (by decide +kernel)⟩ hw hA (fun _ _ => trivial) (fun _ _ _ _ _ => trivial) rfl hl.1 rfl (Nat.le_of_ble_eq_true rfl) dX6_init_140 ⟨Nat.le_of_ble_eq_true rfl, Nat.le_of_ble_eq_true rfl⟩ (fun L258 f259 H locs hp hw => ?_)
      obtain ⟨u9, hu9, eL9, hq9, hc9, hf9⟩ := hp
      have eL258 : L258 = L231 ++ [u9] := eL9
      have hsb : ∀ z, z ∈ L231 → z ∈ L258 := fun z h => by rw [eL258]; exact List.mem_append_left _ h
      have h260 : f259 tx = .inr (6, [.ref u9, .int 0, .int 0]) := hq9
      have h261 : f259 u9 = aI (dA 0) 200 ((fun _ => 0)) := hc9
      have hz262 : ∀ z, z ∈ L231 → z ≠ tx → f259 z = f232 z := hf9
      have m263 : b ∈ L258 := hsb _ m233
      have h264 : f259 b = .inr (7, [.int (nI n), .ref bs, .ref ks, .ref ar, .ref le, .null, .null, .int 0]) := (hz262 _ m233 nb_tx).trans h234
      have m265 : ks ∈ L258 := hsb _ m235
      have h266 : f259 ks = aQ (dA 6) 4 ((va_up ((va_up ((va_up ((va_up ((fun _ => none)) 0 (some k0))) 1 (some k1))) 2 (some k2))) 3 (some k3))) := (hz262 _ m235 nks_tx).trans h236
      have m267 : k0 ∈ L258 := hsb _ m237
      have h268 : f259 k0 = .inr (3, [.double 0, .double 0]) := (hz262 _ m237 nk0_tx).trans h238
      have m269 : k1 ∈ L258 := hsb _ m239
      have h270 : f259 k1 = .inr (3, [.double 0, .double 0]) := (hz262 _ m239 nk1_tx).trans h240
      have m271 : k2 ∈ L258 := hsb _ m241
      have h272 : f259 k2 = .inr (3, [.double 0, .double 0]) := (hz262 _ m241 nk2_tx).trans h242
      have m273 : k3 ∈ L258 := hsb _ m243
      have h274 : f259 k3 = .inr (3, [.double 0, .double 0]) := (hz262 _ m243 nk3_tx).trans h244
      have m275 : bs ∈ L258 := hsb _ m245
      have h276 : f259 bs = aQ (dA 5) nb qf := (hz262 _ m245 nbs_tx).trans h246
      have m277 : ar ∈ L258 := hsb _ m247
      have h278 : f259 ar = .inr (1, [.double 4643862126702624768, .double 4602678819172646912, .double FP.dconst1, .double FP.dconst0]) := (hz262 _ m247 nar_tx).trans h248
      have m279 : le ∈ L258 := hsb _ m249
      have h280 : f259 le = .inr (4, [.double 0, .long 0]) := (hz262 _ m249 nle_tx).trans h250
      have m281 : tx ∈ L258 := hsb _ m251
      have m282 : u9 ∈ L258 := by rw [eL258]; simp
      have nb_u9 : b ≠ u9 := fun h => hu9 (h ▸ m233)
      have nks_u9 : ks ≠ u9 := fun h => hu9 (h ▸ m235)
      have nk0_u9 : k0 ≠ u9 := fun h => hu9 (h ▸ m237)
      have nk1_u9 : k1 ≠ u9 := fun h => hu9 (h ▸ m239)
      have nk2_u9 : k2 ≠ u9 := fun h => hu9 (h ▸ m241)
      have nk3_u9 : k3 ≠ u9 := fun h => hu9 (h ▸ m243)
      have nbs_u9 : bs ≠ u9 := fun h => hu9 (h ▸ m245)
      have nar_u9 : ar ≠ u9 := fun h => hu9 (h ▸ m247)
      have nle_u9 : le ≠ u9 := fun h => hu9 (h ▸ m249)
      have ntx_u9 : tx ≠ u9 := fun h => hu9 (h ▸ m251)
      have ni283 : u9 ∉ L := fun h => hu9 (hs254 _ h)
      have hs284 : ∀ z, z ∈ L → z ∈ L258 := fun z h => hsb z (hs254 z h)
      have hr285 : ∀ z, z ∈ L → z ≠ b → f259 z = f z := fun z hz hb => (hz262 z (hs254 z hz) (fun h : z = tx => ni253 (h ▸ hz))).trans (hr255 z hz hb)
      have hB286 : ∀ j, j < nb → f259 (bl.getD (2 * j) 0) = .inr (2, [.ref (bl.getD (2 * j + 1) 0), .ref k0, .int 0, .double 0, .int 0, .double 0, .int 0]) ∧ f259 (bl.getD (2 * j + 1) 0) = aD (dA 1) n (fun _ => 0) := fun j hj => by obtain ⟨o1, o2⟩ := hB256 j hj; obtain ⟨z1, z2⟩ := hM257 j hj; rw [hz262 _ z1 (fun h => by rw [h, h252] at o1; cases o1), hz262 _ z2 (fun h => by rw [h, h252] at o2; cases o2)]; exact ⟨o1, o2⟩
      have hM287 : ∀ j, j < nb → bl.getD (2 * j) 0 ∈ L258 ∧ bl.getD (2 * j + 1) 0 ∈ L258 := fun j hj => ⟨hsb _ (hM257 j hj).1, hsb _ (hM257 j hj).2⟩
      refine wpF_ (C := RX6) (T := TX6) (N := 8) hx hb hts hi6 tyX6 tyX6_ok nmX6 hown hw m263 h264 rfl 5 (by decide) (hts (.fieldLink RX6 55 "LayerMoisture" "text" "LLayerMoisture$Text;") (by decide +kernel)) (fun _ h9 => h9) rfl hin0 rfl (ty := .object "LayerMoisture$Text") (v := .ref tx) (by decide +kernel) rfl rfl (Nat.le_of_ble_eq_true rfl) dX6_init_143 (fun H locs hw => ?_)
      obtain ⟨f288, ef288⟩ : ∃ z : Nat → va_E, z = va_up f259 b (.inr (7, [.int (nI n), .ref bs, .ref ks, .ref ar, .ref le, .ref tx, .null, .int 0])) := ⟨_, rfl⟩
      have hw : ww G dA A s L258 f288 H locs := by rw [ef288]; exact hw
      have h289 : f288 b = .inr (7, [.int (nI n), .ref bs, .ref ks, .ref ar, .ref le, .ref tx, .null, .int 0]) := by rw [ef288]; exact va_up_self _ _ _
      have h290 : f288 ks = aQ (dA 6) 4 ((va_up ((va_up ((va_up ((va_up ((fun _ => none)) 0 (some k0))) 1 (some k1))) 2 (some k2))) 3 (some k3))) := by rw [ef288, va_up_ne _ _ (Ne.symm nb_ks)]; exact h266
      have h291 : f288 k0 = .inr (3, [.double 0, .double 0]) := by rw [ef288, va_up_ne _ _ (Ne.symm nb_k0)]; exact h268
      have h292 : f288 k1 = .inr (3, [.double 0, .double 0]) := by rw [ef288, va_up_ne _ _ (Ne.symm nb_k1)]; exact h270
      have h293 : f288 k2 = .inr (3, [.double 0, .double 0]) := by rw [ef288, va_up_ne _ _ (Ne.symm nb_k2)]; exact h272
      have h294 : f288 k3 = .inr (3, [.double 0, .double 0]) := by rw [ef288, va_up_ne _ _ (Ne.symm nb_k3)]; exact h274
      have h295 : f288 bs = aQ (dA 5) nb qf := by rw [ef288, va_up_ne _ _ (Ne.symm nb_bs)]; exact h276
      have h296 : f288 ar = .inr (1, [.double 4643862126702624768, .double 4602678819172646912, .double FP.dconst1, .double FP.dconst0]) := by rw [ef288, va_up_ne _ _ (Ne.symm nb_ar)]; exact h278
      have h297 : f288 le = .inr (4, [.double 0, .long 0]) := by rw [ef288, va_up_ne _ _ (Ne.symm nb_le)]; exact h280
      have h298 : f288 tx = .inr (6, [.ref u9, .int 0, .int 0]) := by rw [ef288, va_up_ne _ _ (Ne.symm nb_tx)]; exact h260
      have h299 : f288 u9 = aI (dA 0) 200 ((fun _ => 0)) := by rw [ef288, va_up_ne _ _ (Ne.symm nb_u9)]; exact h261
      have hr300 : ∀ z, z ∈ L → z ≠ b → f288 z = f z := fun z hz hb => (congrFun ef288 z).trans ((va_up_ne _ _ hb).trans (hr285 z hz hb))
      have hB301 : ∀ j, j < nb → f288 (bl.getD (2 * j) 0) = .inr (2, [.ref (bl.getD (2 * j + 1) 0), .ref k0, .int 0, .double 0, .int 0, .double 0, .int 0]) ∧ f288 (bl.getD (2 * j + 1) 0) = aD (dA 1) n (fun _ => 0) := fun j hj => by obtain ⟨o1, o2⟩ := hB286 j hj; rw [ef288, va_up_ne _ _ (fun h => by rw [h, h264] at o1; cases o1), va_up_ne _ _ (fun h => by rw [h, h264] at o2; cases o2)]; exact ⟨o1, o2⟩
      refine lv_aload_n hx hb dX6_init_146 rfl (lv_at hl 0 rfl) ?_
      refine wnew (C := RX4) (T := TX4) (N := 6) (ci := 5) (fs := [.null, .null, .null, .null, .int 0, .int 0]) hx hb hts hi4 tyX4 tyX4_ok hown (hts (.classLink RX6 59 RX4) (by decide +kernel)) (hts (.instantiable RX4 6) (by decide +kernel)) (hts (.initialized RX4) (by decide +kernel)) hw hA rfl (by decide +kernel) (Nat.le_of_ble_eq_true rfl) (Nat.le_of_ble_eq_true rfl) dX6_init_147 (fun pl H hqpl hw => ?_)
      obtain ⟨L302, eL302⟩ : ∃ z : List Nat, z = L258 ++ [pl] := ⟨_, rfl⟩
      obtain ⟨f303, ef303⟩ : ∃ z : Nat → va_E, z = va_up f288 pl (.inr (5, [.null, .null, .null, .null, .int 0, .int 0])) := ⟨_, rfl⟩
      have hw : ww G dA A s L302 f303 H locs := by rw [eL302, ef303]; exact hw
      have nb_pl : b ≠ pl := fun h => hqpl (h ▸ m263)
      have m304 : b ∈ L302 := by rw [eL302]; exact List.mem_append_left _ m263
      have h305 : f303 b = .inr (7, [.int (nI n), .ref bs, .ref ks, .ref ar, .ref le, .ref tx, .null, .int 0]) := by rw [ef303, va_up_ne _ _ nb_pl]; exact h289
      have nks_pl : ks ≠ pl := fun h => hqpl (h ▸ m265)
      have m306 : ks ∈ L302 := by rw [eL302]; exact List.mem_append_left _ m265
      have h307 : f303 ks = aQ (dA 6) 4 ((va_up ((va_up ((va_up ((va_up ((fun _ => none)) 0 (some k0))) 1 (some k1))) 2 (some k2))) 3 (some k3))) := by rw [ef303, va_up_ne _ _ nks_pl]; exact h290
      have nk0_pl : k0 ≠ pl := fun h => hqpl (h ▸ m267)
      have m308 : k0 ∈ L302 := by rw [eL302]; exact List.mem_append_left _ m267
      have h309 : f303 k0 = .inr (3, [.double 0, .double 0]) := by rw [ef303, va_up_ne _ _ nk0_pl]; exact h291
      have nk1_pl : k1 ≠ pl := fun h => hqpl (h ▸ m269)
      have m310 : k1 ∈ L302 := by rw [eL302]; exact List.mem_append_left _ m269
      have h311 : f303 k1 = .inr (3, [.double 0, .double 0]) := by rw [ef303, va_up_ne _ _ nk1_pl]; exact h292
      have nk2_pl : k2 ≠ pl := fun h => hqpl (h ▸ m271)
      have m312 : k2 ∈ L302 := by rw [eL302]; exact List.mem_append_left _ m271
      have h313 : f303 k2 = .inr (3, [.double 0, .double 0]) := by rw [ef303, va_up_ne _ _ nk2_pl]; exact h293
      have nk3_pl : k3 ≠ pl := fun h => hqpl (h ▸ m273)
      have m314 : k3 ∈ L302 := by rw [eL302]; exact List.mem_append_left _ m273
      have h315 : f303 k3 = .inr (3, [.double 0, .double 0]) := by rw [ef303, va_up_ne _ _ nk3_pl]; exact h294
      have nbs_pl : bs ≠ pl := fun h => hqpl (h ▸ m275)
      have m316 : bs ∈ L302 := by rw [eL302]; exact List.mem_append_left _ m275
      have h317 : f303 bs = aQ (dA 5) nb qf := by rw [ef303, va_up_ne _ _ nbs_pl]; exact h295
      have nar_pl : ar ≠ pl := fun h => hqpl (h ▸ m277)
      have m318 : ar ∈ L302 := by rw [eL302]; exact List.mem_append_left _ m277
      have h319 : f303 ar = .inr (1, [.double 4643862126702624768, .double 4602678819172646912, .double FP.dconst1, .double FP.dconst0]) := by rw [ef303, va_up_ne _ _ nar_pl]; exact h296
      have nle_pl : le ≠ pl := fun h => hqpl (h ▸ m279)
      have m320 : le ∈ L302 := by rw [eL302]; exact List.mem_append_left _ m279
      have h321 : f303 le = .inr (4, [.double 0, .long 0]) := by rw [ef303, va_up_ne _ _ nle_pl]; exact h297
      have ntx_pl : tx ≠ pl := fun h => hqpl (h ▸ m281)
      have m322 : tx ∈ L302 := by rw [eL302]; exact List.mem_append_left _ m281
      have h323 : f303 tx = .inr (6, [.ref u9, .int 0, .int 0]) := by rw [ef303, va_up_ne _ _ ntx_pl]; exact h298
      have nu9_pl : u9 ≠ pl := fun h => hqpl (h ▸ m282)
      have m324 : u9 ∈ L302 := by rw [eL302]; exact List.mem_append_left _ m282
      have h325 : f303 u9 = aI (dA 0) 200 ((fun _ => 0)) := by rw [ef303, va_up_ne _ _ nu9_pl]; exact h299
      have m326 : pl ∈ L302 := by rw [eL302]; exact List.mem_append_right _ List.mem_cons_self
      have h327 : f303 pl = .inr (5, [.null, .null, .null, .null, .int 0, .int 0]) := by rw [ef303]; exact va_up_self _ _ _
      have ni328 : pl ∉ L := fun h => hqpl (hs284 _ h)
      have hs329 : ∀ z, z ∈ L → z ∈ L302 := fun z h => by rw [eL302]; exact List.mem_append_left _ (hs284 z h)
      have hr330 : ∀ z, z ∈ L → z ≠ b → f303 z = f z := fun z hz hb => (congrFun ef303 z).trans ((va_up_ne _ _ (fun h : z = pl => ni328 (h ▸ hz))).trans (hr300 z hz hb))
      have hB331 : ∀ j, j < nb → f303 (bl.getD (2 * j) 0) = .inr (2, [.ref (bl.getD (2 * j + 1) 0), .ref k0, .int 0, .double 0, .int 0, .double 0, .int 0]) ∧ f303 (bl.getD (2 * j + 1) 0) = aD (dA 1) n (fun _ => 0) := fun j hj => by obtain ⟨o1, o2⟩ := hB301 j hj; obtain ⟨z1, z2⟩ := hM287 j hj; rw [ef303, va_up_ne _ _ (fun h : bl.getD (2 * j) 0 = pl => hqpl (h ▸ z1)), va_up_ne _ _ (fun h : bl.getD (2 * j + 1) 0 = pl => hqpl (h ▸ z2))]; exact ⟨o1, o2⟩
      have hM332 : ∀ j, j < nb → bl.getD (2 * j) 0 ∈ L302 ∧ bl.getD (2 * j + 1) 0 ∈ L302 := fun j hj => by obtain ⟨z1, z2⟩ := hM287 j hj; rw [eL302]; exact ⟨List.mem_append_left _ z1, List.mem_append_left _ z2⟩
      refine lv_dup hx hb dX6_init_150 rfl ?_
      refine kN_N (host := RX6) (As := []) (rest := [.ref pl, .ref b]) ⟨hx, hb, hml, hown, hts⟩ (c_X4_init l G dA L302 f303 pl m326 h327) ⟨va_cnB 0 hts gX6_init_X4_init_n61 rfl rfl rfl (hE.2 _ (by decide +kernel)) (hts (.initialized RX4) (by decide +kernel)) (by decide +kernel) ⟨Nat.le_of_ble_eq_true rfl, Nat.le_of_ble_eq_true rfl⟩, rfl, hts (.instanceMethod yX4_init) (by decide +kernel)⟩ hw hA (fun _ _ => trivial) (fun _ _ _ _ _ => trivial) rfl hl.1 rfl (Nat.le_of_ble_eq_true rfl) dX6_init_151 ⟨Nat.le_of_ble_eq_true rfl, Nat.le_of_ble_eq_true rfl⟩ (fun L333 f334 H locs hp hw => ?_)
      obtain ⟨pb, pt, pk, pd, ⟨hpb, hpt, hpk, hpd⟩, eL9, hq9, h9b, h9t, h9k, h9d, hf9⟩ := hp
      have eL333 : L333 = L302 ++ [pb] ++ [pt] ++ [pk] ++ [pd] := eL9
      have hsb : ∀ z, z ∈ L302 → z ∈ L333 := fun z h => by rw [eL333]; simp [h]
      have h335 : f334 pl = .inr (5, [.ref pb, .ref pt, .ref pk, .ref pd, .int 0, .int 0]) := hq9
      have h336 : f334 pb = aI (dA 3) 12 ((fun _ => 0)) := h9b
      have h337 : f334 pt = aI (dA 2) 12 ((fun _ => 0)) := h9t
      have h338 : f334 pk = aI (dA 2) 12 ((fun _ => 0)) := h9k
      have h339 : f334 pd = aI (dA 2) 12 ((fun _ => 0)) := h9d
      have hz340 : ∀ z, z ∈ L302 → z ≠ pl → f334 z = f303 z := hf9
      have m341 : b ∈ L333 := hsb _ m304
      have h342 : f334 b = .inr (7, [.int (nI n), .ref bs, .ref ks, .ref ar, .ref le, .ref tx, .null, .int 0]) := (hz340 _ m304 nb_pl).trans h305
      have m343 : ks ∈ L333 := hsb _ m306
      have h344 : f334 ks = aQ (dA 6) 4 ((va_up ((va_up ((va_up ((va_up ((fun _ => none)) 0 (some k0))) 1 (some k1))) 2 (some k2))) 3 (some k3))) := (hz340 _ m306 nks_pl).trans h307
      have m345 : k0 ∈ L333 := hsb _ m308
      have h346 : f334 k0 = .inr (3, [.double 0, .double 0]) := (hz340 _ m308 nk0_pl).trans h309
      have m347 : k1 ∈ L333 := hsb _ m310
      have h348 : f334 k1 = .inr (3, [.double 0, .double 0]) := (hz340 _ m310 nk1_pl).trans h311
      have m349 : k2 ∈ L333 := hsb _ m312
      have h350 : f334 k2 = .inr (3, [.double 0, .double 0]) := (hz340 _ m312 nk2_pl).trans h313
      have m351 : k3 ∈ L333 := hsb _ m314
      have h352 : f334 k3 = .inr (3, [.double 0, .double 0]) := (hz340 _ m314 nk3_pl).trans h315
      have m353 : bs ∈ L333 := hsb _ m316
      have h354 : f334 bs = aQ (dA 5) nb qf := (hz340 _ m316 nbs_pl).trans h317
      have m355 : ar ∈ L333 := hsb _ m318
      have h356 : f334 ar = .inr (1, [.double 4643862126702624768, .double 4602678819172646912, .double FP.dconst1, .double FP.dconst0]) := (hz340 _ m318 nar_pl).trans h319
      have m357 : le ∈ L333 := hsb _ m320
      have h358 : f334 le = .inr (4, [.double 0, .long 0]) := (hz340 _ m320 nle_pl).trans h321
      have m359 : tx ∈ L333 := hsb _ m322
      have h360 : f334 tx = .inr (6, [.ref u9, .int 0, .int 0]) := (hz340 _ m322 ntx_pl).trans h323
      have m361 : u9 ∈ L333 := hsb _ m324
      have h362 : f334 u9 = aI (dA 0) 200 ((fun _ => 0)) := (hz340 _ m324 nu9_pl).trans h325
      have m363 : pl ∈ L333 := hsb _ m326
      have m364 : pb ∈ L333 := by rw [eL333]; simp
      have nb_pb : b ≠ pb := fun h => hpb (h ▸ m304)
      have nks_pb : ks ≠ pb := fun h => hpb (h ▸ m306)
      have nk0_pb : k0 ≠ pb := fun h => hpb (h ▸ m308)
      have nk1_pb : k1 ≠ pb := fun h => hpb (h ▸ m310)
      have nk2_pb : k2 ≠ pb := fun h => hpb (h ▸ m312)
      have nk3_pb : k3 ≠ pb := fun h => hpb (h ▸ m314)
      have nbs_pb : bs ≠ pb := fun h => hpb (h ▸ m316)
      have nar_pb : ar ≠ pb := fun h => hpb (h ▸ m318)
      have nle_pb : le ≠ pb := fun h => hpb (h ▸ m320)
      have ntx_pb : tx ≠ pb := fun h => hpb (h ▸ m322)
      have nu9_pb : u9 ≠ pb := fun h => hpb (h ▸ m324)
      have npl_pb : pl ≠ pb := fun h => hpb (h ▸ m326)
      have ni365 : pb ∉ L := fun h => hpb (hs329 _ h)
      have m366 : pt ∈ L333 := by rw [eL333]; simp
      have nb_pt : b ≠ pt := fun h => hpt (h ▸ m304)
      have nks_pt : ks ≠ pt := fun h => hpt (h ▸ m306)
      have nk0_pt : k0 ≠ pt := fun h => hpt (h ▸ m308)
      have nk1_pt : k1 ≠ pt := fun h => hpt (h ▸ m310)
      have nk2_pt : k2 ≠ pt := fun h => hpt (h ▸ m312)
      have nk3_pt : k3 ≠ pt := fun h => hpt (h ▸ m314)
      have nbs_pt : bs ≠ pt := fun h => hpt (h ▸ m316)
      have nar_pt : ar ≠ pt := fun h => hpt (h ▸ m318)
      have nle_pt : le ≠ pt := fun h => hpt (h ▸ m320)
      have ntx_pt : tx ≠ pt := fun h => hpt (h ▸ m322)
      have nu9_pt : u9 ≠ pt := fun h => hpt (h ▸ m324)
      have npl_pt : pl ≠ pt := fun h => hpt (h ▸ m326)
      have ni367 : pt ∉ L := fun h => hpt (hs329 _ h)
      have m368 : pk ∈ L333 := by rw [eL333]; simp
      have nb_pk : b ≠ pk := fun h => hpk (h ▸ m304)
      have nks_pk : ks ≠ pk := fun h => hpk (h ▸ m306)
      have nk0_pk : k0 ≠ pk := fun h => hpk (h ▸ m308)
      have nk1_pk : k1 ≠ pk := fun h => hpk (h ▸ m310)
      have nk2_pk : k2 ≠ pk := fun h => hpk (h ▸ m312)
      have nk3_pk : k3 ≠ pk := fun h => hpk (h ▸ m314)
      have nbs_pk : bs ≠ pk := fun h => hpk (h ▸ m316)
      have nar_pk : ar ≠ pk := fun h => hpk (h ▸ m318)
      have nle_pk : le ≠ pk := fun h => hpk (h ▸ m320)
      have ntx_pk : tx ≠ pk := fun h => hpk (h ▸ m322)
      have nu9_pk : u9 ≠ pk := fun h => hpk (h ▸ m324)
      have npl_pk : pl ≠ pk := fun h => hpk (h ▸ m326)
      have ni369 : pk ∉ L := fun h => hpk (hs329 _ h)
      have m370 : pd ∈ L333 := by rw [eL333]; simp
      have nb_pd : b ≠ pd := fun h => hpd (h ▸ m304)
      have nks_pd : ks ≠ pd := fun h => hpd (h ▸ m306)
      have nk0_pd : k0 ≠ pd := fun h => hpd (h ▸ m308)
      have nk1_pd : k1 ≠ pd := fun h => hpd (h ▸ m310)
      have nk2_pd : k2 ≠ pd := fun h => hpd (h ▸ m312)
      have nk3_pd : k3 ≠ pd := fun h => hpd (h ▸ m314)
      have nbs_pd : bs ≠ pd := fun h => hpd (h ▸ m316)
      have nar_pd : ar ≠ pd := fun h => hpd (h ▸ m318)
      have nle_pd : le ≠ pd := fun h => hpd (h ▸ m320)
      have ntx_pd : tx ≠ pd := fun h => hpd (h ▸ m322)
      have nu9_pd : u9 ≠ pd := fun h => hpd (h ▸ m324)
      have npl_pd : pl ≠ pd := fun h => hpd (h ▸ m326)
      have ni371 : pd ∉ L := fun h => hpd (hs329 _ h)
      have hs372 : ∀ z, z ∈ L → z ∈ L333 := fun z h => hsb z (hs329 z h)
      have hr373 : ∀ z, z ∈ L → z ≠ b → f334 z = f z := fun z hz hb => (hz340 z (hs329 z hz) (fun h : z = pl => ni328 (h ▸ hz))).trans (hr330 z hz hb)
      have hB374 : ∀ j, j < nb → f334 (bl.getD (2 * j) 0) = .inr (2, [.ref (bl.getD (2 * j + 1) 0), .ref k0, .int 0, .double 0, .int 0, .double 0, .int 0]) ∧ f334 (bl.getD (2 * j + 1) 0) = aD (dA 1) n (fun _ => 0) := fun j hj => by obtain ⟨o1, o2⟩ := hB331 j hj; obtain ⟨z1, z2⟩ := hM332 j hj; rw [hz340 _ z1 (fun h => by rw [h, h327] at o1; cases o1), hz340 _ z2 (fun h => by rw [h, h327] at o2; cases o2)]; exact ⟨o1, o2⟩
      have hM375 : ∀ j, j < nb → bl.getD (2 * j) 0 ∈ L333 ∧ bl.getD (2 * j + 1) 0 ∈ L333 := fun j hj => ⟨hsb _ (hM332 j hj).1, hsb _ (hM332 j hj).2⟩
      refine wpF_ (C := RX6) (T := TX6) (N := 8) hx hb hts hi6 tyX6 tyX6_ok nmX6 hown hw m341 h342 rfl 6 (by decide) (hts (.fieldLink RX6 62 "LayerMoisture" "plan" "LLayerMoisture$Plan;") (by decide +kernel)) (fun _ h9 => h9) rfl hin0 rfl (ty := .object "LayerMoisture$Plan") (v := .ref pl) (by decide +kernel) rfl rfl (Nat.le_of_ble_eq_true rfl) dX6_init_154 (fun H locs hw => ?_)
      obtain ⟨f376, ef376⟩ : ∃ z : Nat → va_E, z = va_up f334 b (.inr (7, [.int (nI n), .ref bs, .ref ks, .ref ar, .ref le, .ref tx, .ref pl, .int 0])) := ⟨_, rfl⟩
      have hw : ww G dA A s L333 f376 H locs := by rw [ef376]; exact hw
      have h377 : f376 b = .inr (7, [.int (nI n), .ref bs, .ref ks, .ref ar, .ref le, .ref tx, .ref pl, .int 0]) := by rw [ef376]; exact va_up_self _ _ _
      have h378 : f376 ks = aQ (dA 6) 4 ((va_up ((va_up ((va_up ((va_up ((fun _ => none)) 0 (some k0))) 1 (some k1))) 2 (some k2))) 3 (some k3))) := by rw [ef376, va_up_ne _ _ (Ne.symm nb_ks)]; exact h344
      have h379 : f376 k0 = .inr (3, [.double 0, .double 0]) := by rw [ef376, va_up_ne _ _ (Ne.symm nb_k0)]; exact h346
      have h380 : f376 k1 = .inr (3, [.double 0, .double 0]) := by rw [ef376, va_up_ne _ _ (Ne.symm nb_k1)]; exact h348
      have h381 : f376 k2 = .inr (3, [.double 0, .double 0]) := by rw [ef376, va_up_ne _ _ (Ne.symm nb_k2)]; exact h350
      have h382 : f376 k3 = .inr (3, [.double 0, .double 0]) := by rw [ef376, va_up_ne _ _ (Ne.symm nb_k3)]; exact h352
      have h383 : f376 bs = aQ (dA 5) nb qf := by rw [ef376, va_up_ne _ _ (Ne.symm nb_bs)]; exact h354
      have h384 : f376 ar = .inr (1, [.double 4643862126702624768, .double 4602678819172646912, .double FP.dconst1, .double FP.dconst0]) := by rw [ef376, va_up_ne _ _ (Ne.symm nb_ar)]; exact h356
      have h385 : f376 le = .inr (4, [.double 0, .long 0]) := by rw [ef376, va_up_ne _ _ (Ne.symm nb_le)]; exact h358
      have h386 : f376 tx = .inr (6, [.ref u9, .int 0, .int 0]) := by rw [ef376, va_up_ne _ _ (Ne.symm nb_tx)]; exact h360
      have h387 : f376 u9 = aI (dA 0) 200 ((fun _ => 0)) := by rw [ef376, va_up_ne _ _ (Ne.symm nb_u9)]; exact h362
      have h388 : f376 pl = .inr (5, [.ref pb, .ref pt, .ref pk, .ref pd, .int 0, .int 0]) := by rw [ef376, va_up_ne _ _ (Ne.symm nb_pl)]; exact h335
      have h389 : f376 pb = aI (dA 3) 12 ((fun _ => 0)) := by rw [ef376, va_up_ne _ _ (Ne.symm nb_pb)]; exact h336
      have h390 : f376 pt = aI (dA 2) 12 ((fun _ => 0)) := by rw [ef376, va_up_ne _ _ (Ne.symm nb_pt)]; exact h337
      have h391 : f376 pk = aI (dA 2) 12 ((fun _ => 0)) := by rw [ef376, va_up_ne _ _ (Ne.symm nb_pk)]; exact h338
      have h392 : f376 pd = aI (dA 2) 12 ((fun _ => 0)) := by rw [ef376, va_up_ne _ _ (Ne.symm nb_pd)]; exact h339
      have hr393 : ∀ z, z ∈ L → z ≠ b → f376 z = f z := fun z hz hb => (congrFun ef376 z).trans ((va_up_ne _ _ hb).trans (hr373 z hz hb))
      have hB394 : ∀ j, j < nb → f376 (bl.getD (2 * j) 0) = .inr (2, [.ref (bl.getD (2 * j + 1) 0), .ref k0, .int 0, .double 0, .int 0, .double 0, .int 0]) ∧ f376 (bl.getD (2 * j + 1) 0) = aD (dA 1) n (fun _ => 0) := fun j hj => by obtain ⟨o1, o2⟩ := hB374 j hj; rw [ef376, va_up_ne _ _ (fun h => by rw [h, h342] at o1; cases o1), va_up_ne _ _ (fun h => by rw [h, h342] at o2; cases o2)]; exact ⟨o1, o2⟩
      refine W.widen (k := 31) (n := 467) (Nat.le_of_ble_eq_true rfl) (Nat.le_of_ble_eq_true rfl) ?_
      exact hret _ _ _ _ L333 f376 hw (by rw [← en, ← eb]; exact ⟨ks, k0, k1, k2, k3, bs, bl, ar, le, tx, u9, pl, pb, pt, pk, pd, _, qf, by rw [eL333, eL302, eL258, eL231, eL192, eL158, eL135, eLB, eL107, eL80, eL56, eL35, eL17, eL4]; simp [List.append_assoc], hbl, ⟨rfl, rfl, rfl, rfl⟩, hqf, h377, h378, h383, ⟨h379, h380, h381, h382⟩, hB394, h384, h385, h386, h387, h388, h389, h390, h391, h392, hr393⟩) dX6_init_157
    | succ kf ih =>
      intro i hik bl qf fb H locs hbl hqf hbd t_b t_ks t_k0 t_k1 t_k2 t_k3 t_bs hfrb hw ls hl
      have hlt : i < nb := by omega
      obtain ⟨LB, eLB⟩ : ∃ z : List Nat, z = L107 ++ bl := ⟨_, rfl⟩
      have hw : ww G dA A s LB fb H locs := by rw [eLB]; exact hw
      have hsubB : ∀ z, z ∈ L107 → z ∈ LB := fun z h => by rw [eLB]; exact List.mem_append_left _ h
      have hsubL : ∀ z, z ∈ L → z ∈ LB := fun z h => hsubB z (hs124 z h)
      have hmemb : ∀ j, j < i → bl.getD (2 * j) 0 ∈ LB ∧ bl.getD (2 * j + 1) 0 ∈ LB := fun j hj => by rw [eLB, List.getD_eq_getElem?_getD, List.getD_eq_getElem?_getD, List.getElem?_eq_getElem (show 2 * j < bl.length by omega), List.getElem?_eq_getElem (show 2 * j + 1 < bl.length by omega)]; exact ⟨List.mem_append_right _ (List.getElem_mem _), List.mem_append_right _ (List.getElem_mem _)⟩
      have hdis : ∀ j, j < i → bl.getD (2 * j) 0 ≠ bs ∧ bl.getD (2 * j + 1) 0 ≠ bs := fun j hj => by have hnd := D_nodup hw.2.2.1; rw [eLB] at hnd; have h9 := (List.nodup_append.mp hnd).2.2 bs m121; exact ⟨Ne.symm (h9 _ (gD_m (by omega))), Ne.symm (h9 _ (gD_m (by omega)))⟩
      refine lv_iload_n hx hb dX6_init_75 rfl (lv_at hl 3 rfl) ?_
      refine lv_aload_n hx hb dX6_init_76 rfl (lv_at hl 0 rfl) ?_
      refine wg (C := RX6) (T := TX6) (N := 8) hx hb hts hi6 hown hw (hsubB _ m109) t_b rfl 1 (by decide) (hts (.fieldLink RX6 31 "LayerMoisture" "boards" "[LLayerMoisture$Board;") (by decide +kernel)) (fun _ h9 => h9) (v := .ref bs) rfl dX6_init_77 ?_
      refine wlen hx hb 5 hw (hsubB _ m121) t_bs rfl dX6_init_80 ?_
      refine lv_icmp_ge (tgt := 113) hx hb dX6_init_81 (by decide) (fun c9 => absurd c9 (nI_ge hlt hnb31)) (fun _ => ?_)
      refine lv_aload_n hx hb dX6_init_84 rfl (lv_at hl 0 rfl) ?_
      refine wg (C := RX6) (T := TX6) (N := 8) hx hb hts hi6 hown hw (hsubB _ m109) t_b rfl 1 (by decide) (hts (.fieldLink RX6 31 "LayerMoisture" "boards" "[LLayerMoisture$Board;") (by decide +kernel)) (fun _ h9 => h9) (v := .ref bs) rfl dX6_init_85 ?_
      refine lv_iload_n hx hb dX6_init_88 rfl (lv_at hl 3 rfl) ?_
      refine wnew (C := RX1) (T := TX1) (N := 7) (ci := 2) (fs := [.null, .null, .int 0, .double 0, .int 0, .double 0, .int 0]) hx hb hts hi1 tyX1 tyX1_ok hown (hts (.classLink RX6 29 RX1) (by decide +kernel)) (hts (.instantiable RX1 7) (by decide +kernel)) (hts (.initialized RX1) (by decide +kernel)) hw hA rfl (by decide +kernel) (show _ ≤ 31 by omega) (show _ ≤ 467 by omega) dX6_init_89 (fun bj H hqbj hw => ?_)
      obtain ⟨L395, eL395⟩ : ∃ z : List Nat, z = LB ++ [bj] := ⟨_, rfl⟩
      obtain ⟨f396, ef396⟩ : ∃ z : Nat → va_E, z = va_up fb bj (.inr (2, [.null, .null, .int 0, .double 0, .int 0, .double 0, .int 0])) := ⟨_, rfl⟩
      have hw : ww G dA A s L395 f396 H locs := by rw [eL395, ef396]; exact hw
      have nb_bj : b ≠ bj := fun h => hqbj (h ▸ (hsubB _ m109))
      have m397 : b ∈ L395 := by rw [eL395]; exact List.mem_append_left _ (hsubB _ m109)
      have h398 : f396 b = .inr (7, [.int (nI n), .ref bs, .ref ks, .null, .null, .null, .null, .int 0]) := by rw [ef396, va_up_ne _ _ nb_bj]; exact t_b
      have nks_bj : ks ≠ bj := fun h => hqbj (h ▸ (hsubB _ m111))
      have m399 : ks ∈ L395 := by rw [eL395]; exact List.mem_append_left _ (hsubB _ m111)
      have h400 : f396 ks = aQ (dA 6) 4 ((va_up ((va_up ((va_up ((va_up ((fun _ => none)) 0 (some k0))) 1 (some k1))) 2 (some k2))) 3 (some k3))) := by rw [ef396, va_up_ne _ _ nks_bj]; exact t_ks
      have nk0_bj : k0 ≠ bj := fun h => hqbj (h ▸ (hsubB _ m113))
      have m401 : k0 ∈ L395 := by rw [eL395]; exact List.mem_append_left _ (hsubB _ m113)
      have h402 : f396 k0 = .inr (3, [.double 0, .double 0]) := by rw [ef396, va_up_ne _ _ nk0_bj]; exact t_k0
      have nk1_bj : k1 ≠ bj := fun h => hqbj (h ▸ (hsubB _ m115))
      have m403 : k1 ∈ L395 := by rw [eL395]; exact List.mem_append_left _ (hsubB _ m115)
      have h404 : f396 k1 = .inr (3, [.double 0, .double 0]) := by rw [ef396, va_up_ne _ _ nk1_bj]; exact t_k1
      have nk2_bj : k2 ≠ bj := fun h => hqbj (h ▸ (hsubB _ m117))
      have m405 : k2 ∈ L395 := by rw [eL395]; exact List.mem_append_left _ (hsubB _ m117)
      have h406 : f396 k2 = .inr (3, [.double 0, .double 0]) := by rw [ef396, va_up_ne _ _ nk2_bj]; exact t_k2
      have nk3_bj : k3 ≠ bj := fun h => hqbj (h ▸ (hsubB _ m119))
      have m407 : k3 ∈ L395 := by rw [eL395]; exact List.mem_append_left _ (hsubB _ m119)
      have h408 : f396 k3 = .inr (3, [.double 0, .double 0]) := by rw [ef396, va_up_ne _ _ nk3_bj]; exact t_k3
      have nbs_bj : bs ≠ bj := fun h => hqbj (h ▸ (hsubB _ m121))
      have m409 : bs ∈ L395 := by rw [eL395]; exact List.mem_append_left _ (hsubB _ m121)
      have h410 : f396 bs = aQ (dA 5) nb qf := by rw [ef396, va_up_ne _ _ nbs_bj]; exact t_bs
      have m411 : bj ∈ L395 := by rw [eL395]; exact List.mem_append_right _ List.mem_cons_self
      have h412 : f396 bj = .inr (2, [.null, .null, .int 0, .double 0, .int 0, .double 0, .int 0]) := by rw [ef396]; exact va_up_self _ _ _
      have ni413 : bj ∉ L := fun h => hqbj (hsubL _ h)
      have hs414 : ∀ z, z ∈ L → z ∈ L395 := fun z h => by rw [eL395]; exact List.mem_append_left _ (hsubL z h)
      have hr415 : ∀ z, z ∈ L → z ≠ b → f396 z = f z := fun z hz hb => (congrFun ef396 z).trans ((va_up_ne _ _ (fun h : z = bj => ni413 (h ▸ hz))).trans (hfrb z hz hb))
      refine lv_dup hx hb dX6_init_92 rfl ?_
      refine lv_aload_n hx hb dX6_init_93 rfl (lv_at hl 0 rfl) ?_
      refine wg (C := RX6) (T := TX6) (N := 8) hx hb hts hi6 hown hw m397 h398 rfl 0 (by decide) (hts (.fieldLink RX6 18 "LayerMoisture" "layerCount" "I") (by decide +kernel)) (fun _ h9 => h9) (v := .int (nI n)) rfl dX6_init_94 ?_
      refine lv_aload_n hx hb dX6_init_97 rfl (lv_at hl 0 rfl) ?_
      refine wg (C := RX6) (T := TX6) (N := 8) hx hb hts hi6 hown hw m397 h398 rfl 2 (by decide) (hts (.fieldLink RX6 24 "LayerMoisture" "kinds" "[LLayerMoisture$Kind;") (by decide +kernel)) (fun _ h9 => h9) (v := .ref ks) rfl dX6_init_98 ?_
      refine lv_iconst (v := 0) hx hb dX6_init_101 (by decide) ?_
      refine wld_q6 hx hb hw m399 h400 0 (by decide) (by decide) nI_0.symm dX6_init_102 rfl ?_
      refine kI_N (As := [.int (nI n), .ref k0]) (rest := [.ref bj, .int (nI i), .ref bs]) ⟨hx, hb, hml, hown, hts⟩ (c_X1_init l G dA L395 f396 bj n k0 m411 h412 hn16) (cwI 2 hts gX6_init_X1_init rfl rfl rfl (hts (.initialized RX1) (by decide +kernel)) (hts (.methodLink RX6 35 yX1_init) (by decide +kernel)) (hts (.instanceMethod yX1_init) (by decide +kernel)) rfl (by decide +kernel) ⟨Nat.le_of_ble_eq_true rfl, Nat.le_of_ble_eq_true rfl⟩) hw hA (fun _ _ => trivial) (fun _ _ _ _ _ => trivial) rfl hl.1 rfl (Nat.le_of_ble_eq_true rfl) dX6_init_103 ⟨(show 6 + 2 * i + 1 + 1 ≤ 31 by omega), (show 20 + 23 * i + 7 + 16 ≤ 467 by omega)⟩ (fun L416 f417 H locs hp hw => ?_)
      obtain ⟨w9, hw9, eL9, hq9, hc9, hf9⟩ := hp
      have eL416 : L416 = L395 ++ [w9] := eL9
      have hsb : ∀ z, z ∈ L395 → z ∈ L416 := fun z h => by rw [eL416]; exact List.mem_append_left _ h
      have h418 : f417 bj = .inr (2, [.ref w9, .ref k0, .int 0, .double 0, .int 0, .double 0, .int 0]) := hq9
      have h419 : f417 w9 = aD (dA 1) n ((fun _ => 0)) := hc9
      have hz420 : ∀ z, z ∈ L395 → z ≠ bj → f417 z = f396 z := hf9
      have m421 : b ∈ L416 := hsb _ m397
      have h422 : f417 b = .inr (7, [.int (nI n), .ref bs, .ref ks, .null, .null, .null, .null, .int 0]) := (hz420 _ m397 nb_bj).trans h398
      have m423 : ks ∈ L416 := hsb _ m399
      have h424 : f417 ks = aQ (dA 6) 4 ((va_up ((va_up ((va_up ((va_up ((fun _ => none)) 0 (some k0))) 1 (some k1))) 2 (some k2))) 3 (some k3))) := (hz420 _ m399 nks_bj).trans h400
      have m425 : k0 ∈ L416 := hsb _ m401
      have h426 : f417 k0 = .inr (3, [.double 0, .double 0]) := (hz420 _ m401 nk0_bj).trans h402
      have m427 : k1 ∈ L416 := hsb _ m403
      have h428 : f417 k1 = .inr (3, [.double 0, .double 0]) := (hz420 _ m403 nk1_bj).trans h404
      have m429 : k2 ∈ L416 := hsb _ m405
      have h430 : f417 k2 = .inr (3, [.double 0, .double 0]) := (hz420 _ m405 nk2_bj).trans h406
      have m431 : k3 ∈ L416 := hsb _ m407
      have h432 : f417 k3 = .inr (3, [.double 0, .double 0]) := (hz420 _ m407 nk3_bj).trans h408
      have m433 : bs ∈ L416 := hsb _ m409
      have h434 : f417 bs = aQ (dA 5) nb qf := (hz420 _ m409 nbs_bj).trans h410
      have m435 : bj ∈ L416 := hsb _ m411
      have m436 : w9 ∈ L416 := by rw [eL416]; simp
      have nb_w9 : b ≠ w9 := fun h => hw9 (h ▸ m397)
      have nks_w9 : ks ≠ w9 := fun h => hw9 (h ▸ m399)
      have nk0_w9 : k0 ≠ w9 := fun h => hw9 (h ▸ m401)
      have nk1_w9 : k1 ≠ w9 := fun h => hw9 (h ▸ m403)
      have nk2_w9 : k2 ≠ w9 := fun h => hw9 (h ▸ m405)
      have nk3_w9 : k3 ≠ w9 := fun h => hw9 (h ▸ m407)
      have nbs_w9 : bs ≠ w9 := fun h => hw9 (h ▸ m409)
      have nbj_w9 : bj ≠ w9 := fun h => hw9 (h ▸ m411)
      have ni437 : w9 ∉ L := fun h => hw9 (hs414 _ h)
      have hs438 : ∀ z, z ∈ L → z ∈ L416 := fun z h => hsb z (hs414 z h)
      have hr439 : ∀ z, z ∈ L → z ≠ b → f417 z = f z := fun z hz hb => (hz420 z (hs414 z hz) (fun h : z = bj => ni413 (h ▸ hz))).trans (hr415 z hz hb)
      have hold9 : ∀ j, j < i → f417 (bl.getD (2 * j) 0) = .inr (2, [.ref (bl.getD (2 * j + 1) 0), .ref k0, .int 0, .double 0, .int 0, .double 0, .int 0]) ∧ f417 (bl.getD (2 * j + 1) 0) = aD (dA 1) n (fun _ => 0) := fun j hj => by
        obtain ⟨ma, mb⟩ := hmemb j hj
        have na : bl.getD (2 * j) 0 ≠ bj := fun h => hqbj (h ▸ ma)
        have nb9 : bl.getD (2 * j + 1) 0 ≠ bj := fun h => hqbj (h ▸ mb)
        have mL : ∀ z, z ∈ LB → z ∈ L395 := fun z h => by rw [eL395]; exact List.mem_append_left _ h
        rw [hz420 _ (mL _ ma) na, hz420 _ (mL _ mb) nb9, ef396, va_up_ne _ _ na, va_up_ne _ _ nb9]
        exact hbd j hj
      refine wst_q5 hx hb hw m433 h434 m435 h418 i hlt hnb31 rfl dX6_init_106 (fun H locs hw => ?_)
      obtain ⟨f440, ef440⟩ : ∃ z : Nat → va_E, z = va_up f417 bs (aQ (dA 5) nb ((va_up qf i (some bj)))) := ⟨_, rfl⟩
      have hw : ww G dA A s L416 f440 H locs := by rw [ef440]; exact hw
      have h441 : f440 b = .inr (7, [.int (nI n), .ref bs, .ref ks, .null, .null, .null, .null, .int 0]) := by rw [ef440, va_up_ne _ _ nb_bs]; exact h422
      have h442 : f440 ks = aQ (dA 6) 4 ((va_up ((va_up ((va_up ((va_up ((fun _ => none)) 0 (some k0))) 1 (some k1))) 2 (some k2))) 3 (some k3))) := by rw [ef440, va_up_ne _ _ nks_bs]; exact h424
      have h443 : f440 k0 = .inr (3, [.double 0, .double 0]) := by rw [ef440, va_up_ne _ _ nk0_bs]; exact h426
      have h444 : f440 k1 = .inr (3, [.double 0, .double 0]) := by rw [ef440, va_up_ne _ _ nk1_bs]; exact h428
      have h445 : f440 k2 = .inr (3, [.double 0, .double 0]) := by rw [ef440, va_up_ne _ _ nk2_bs]; exact h430
      have h446 : f440 k3 = .inr (3, [.double 0, .double 0]) := by rw [ef440, va_up_ne _ _ nk3_bs]; exact h432
      have h447 : f440 bs = aQ (dA 5) nb ((va_up qf i (some bj))) := by rw [ef440]; exact va_up_self _ _ _
      have h448 : f440 bj = .inr (2, [.ref w9, .ref k0, .int 0, .double 0, .int 0, .double 0, .int 0]) := by rw [ef440, va_up_ne _ _ (Ne.symm nbs_bj)]; exact h418
      have h449 : f440 w9 = aD (dA 1) n ((fun _ => 0)) := by rw [ef440, va_up_ne _ _ (Ne.symm nbs_w9)]; exact h419
      have hr450 : ∀ z, z ∈ L → z ≠ b → f440 z = f z := fun z hz hb => (congrFun ef440 z).trans ((va_up_ne _ _ (fun h : z = bs => ni123 (h ▸ hz))).trans (hr439 z hz hb))
      have hold : ∀ j, j < i → f440 (bl.getD (2 * j) 0) = .inr (2, [.ref (bl.getD (2 * j + 1) 0), .ref k0, .int 0, .double 0, .int 0, .double 0, .int 0]) ∧ f440 (bl.getD (2 * j + 1) 0) = aD (dA 1) n (fun _ => 0) := fun j hj => by
        obtain ⟨o1, o2⟩ := hold9 j hj
        rw [ef440, va_up_ne _ _ (hdis j hj).1, va_up_ne _ _ (hdis j hj).2]
        exact ⟨o1, o2⟩
      refine lv_iinc (v := nI (i + 1)) (lv' := [(3, .int (nI (i + 1))), (0, .ref b), (1, .int v1), (2, .int v2)]) hx hb dX6_init_107 hl (k := 3) rfl (nI_1 i) (by decide) rfl (fun ls hl => ?_)
      refine lv_goto (tgt := 75) hx hb dX6_init_110 (by decide) ?_
      refine W.widen (k := 6 + 2 * (i + 1)) (n := 20 + 23 * (i + 1)) (by omega) (by omega) ?_
      refine ih (i + 1) (by omega) (bl ++ [bj, w9]) (va_up qf i (some bj)) f440 _ _ (by rw [List.length_append]; simp only [List.length_cons, List.length_nil]; omega) ?_ ?_ h441 h442 h443 h444 h445 h446 h447 hr450 ?_ ls (lv_sub hl [1, 2, 3, 0] rfl)
      · intro j hj
        by_cases e : j = i
        · subst e; rw [va_up_self, gD_r (by omega), hbl, Nat.sub_self]; rfl
        · rw [va_up_ne _ _ e, gD_l (by omega)]; exact hqf j (by omega)
      · intro j hj
        by_cases e : j = i
        · subst e; rw [gD_r (by omega), gD_r (by omega), hbl, Nat.sub_self, show 2 * j + 1 - 2 * j = 1 by omega]; exact ⟨h448, h449⟩
        · rw [gD_l (by omega), gD_l (by omega)]; exact hold j (by omega)
      · have h9 := hw; rw [eL416, eL395, eLB] at h9; simpa [List.append_assoc] using h9
  refine W.widen (k := 6 + 2 * 0) (n := 20 + 23 * 0) (by omega) (by omega) ?_
  exact loop nb 0 (by omega) [] (fun _ => none) f126 _ _ rfl (fun j hj => absurd hj (Nat.not_lt_zero j)) (fun j hj => absurd hj (Nat.not_lt_zero j)) h127 h128 h129 h130 h131 h132 h133 hr134 (by rw [List.append_nil]; exact hw) ls (lv_sub hl [1, 2, 3, 0] rfl)
