set_option maxHeartbeats 8000000 in
set_option maxRecDepth 100000 in
theorem whole_start9 {p : Program} {e : Env} {s : State} {m : MethodId} {below : List Frame} {meth : Method} {c : Code} (l : Launch) (hlt : l.stackTraces = false) {b L : Nat} {xs : Nat → Int32} (hL : L ≤ 2562) (C0 : lw_At p s m meth c b L xs) : W p l e room_1 s m #[Value.ref b] below meth c s.heap [] 0 0 (lw_Z below #[Value.ref b] s) (entryFrame m ([Value.ref b] : List Value).toArray 10) := by
  obtain ⟨hx, hb, hr9, hml, hown0, hts0, hXs, hbl, hlocks, hgv⟩ := C0
  have hb : c.code = cL_law := hb
  have hown : s.vm.findClass RL = some m.cls := hown0
  have hts : ∀ w ∈ wsL_law, w.before #[Value.ref b] s = true := fun w h => hts0 w (wsL_law_in w h)
  have hA : ∀ z : Nat, s.heap.size ≤ z → (fun z : Nat => s.heap.size ≤ z) z := fun _ h => h
  have hbA : ¬ (fun z : Nat => s.heap.size ≤ z) b := Nat.not_le.mpr hbl
  have hAn : ∀ a : Nat, a < s.heap.size → ¬ (fun z : Nat => s.heap.size ≤ z) a := fun a h => Nat.not_le.mpr h
  have hgs := flat_of_before _ hgv
  obtain ⟨c0, iS0, hKn0⟩ := u_known (C := RJx00060) (T := TJx00060) (N := 6) (n := 6) hts (inlJx00060) (hts (.instantiable RJx00060 6) (by decide +kernel))
  obtain ⟨c1, iS1, hKn1⟩ := u_known (C := RX0) (T := TX0) (N := 4) (n := 4) hts (inlX0) (hts (.instantiable RX0 4) (by decide +kernel))
  obtain ⟨c2, iS2, hKn2⟩ := u_known (C := RX1) (T := TX1) (N := 7) (n := 7) hts (inlX1) (hts (.instantiable RX1 7) (by decide +kernel))
  obtain ⟨c3, iS3, hKn3⟩ := u_known (C := RX2) (T := TX2) (N := 2) (n := 2) hts (inlX2) (hts (.instantiable RX2 2) (by decide +kernel))
  obtain ⟨c4, iS4, hKn4⟩ := u_known (C := RX3) (T := TX3) (N := 2) (n := 2) hts (inlX3) (hts (.instantiable RX3 2) (by decide +kernel))
  obtain ⟨c5, iS5, hKn5⟩ := u_known (C := RX4) (T := TX4) (N := 6) (n := 6) hts (inlX4) (hts (.instantiable RX4 6) (by decide +kernel))
  obtain ⟨c6, iS6, hKn6⟩ := u_known (C := RX5) (T := TX5) (N := 3) (n := 3) hts (inlX5) (hts (.instantiable RX5 3) (by decide +kernel))
  obtain ⟨c7, iS7, hKn7⟩ := u_known (C := RX6) (T := TX6) (N := 8) (n := 8) hts (inlX6) (hts (.instantiable RX6 8) (by decide +kernel))
  obtain ⟨c8, iS8, hKn8⟩ := u_known (C := RX7) (T := TX7) (N := 31) (n := 31) hts (inlX7) (hts (.instantiable RX7 31) (by decide +kernel))
  obtain ⟨dC, dI, hKc⟩ : ∃ (dC : Nat → ClassId) (dI : Nat → Nat → Nat), ∀ (k : Nat) (q : vw_C), vwCl[k]? = some q → u_Kn s q.1 q.2.1 q.2.2 (dC k) (dI k) := by
    refine ⟨fun k => match k with | 0 => c0 | 1 => c1 | 2 => c2 | 3 => c3 | 4 => c4 | 5 => c5 | 6 => c6 | 7 => c7 | _ => c8, fun k => match k with | 0 => iS0 | 1 => iS1 | 2 => iS2 | 3 => iS3 | 4 => iS4 | 5 => iS5 | 6 => iS6 | 7 => iS7 | _ => iS8, ?_⟩
    intro k q hq
    match k, hq with
    | 0, hq => cases hq; exact hKn0
    | 1, hq => cases hq; exact hKn1
    | 2, hq => cases hq; exact hKn2
    | 3, hq => cases hq; exact hKn3
    | 4, hq => cases hq; exact hKn4
    | 5, hq => cases hq; exact hKn5
    | 6, hq => cases hq; exact hKn6
    | 7, hq => cases hq; exact hKn7
    | 8, hq => cases hq; exact hKn8
    | k + 9, hq => simp [vwCl] at hq
  have hAO1 : va_AO RX1 s := va_AO.of (hts0 (.arrayOver (.object RX1)) (by decide +kernel))
  have hAO2 : va_AO RX2 s := va_AO.of (hts0 (.arrayOver (.object RX2)) (by decide +kernel))
  obtain ⟨d0, hd0, hn0⟩ := arr_of (hts (.arrayClass .char) (by decide +kernel))
  obtain ⟨d1, hd1, hn1⟩ := arr_of (hts (.arrayClass .double) (by decide +kernel))
  obtain ⟨d2, hd2, hn2⟩ := arr_of (hts (.arrayClass .int) (by decide +kernel))
  obtain ⟨d3, hd3, hn3⟩ := arr_of (hts (.arrayClass .boolean) (by decide +kernel))
  obtain ⟨d4, hd4, hn4⟩ := arr_of (hts (.arrayClass .long) (by decide +kernel))
  obtain ⟨d5, hd5, hn5⟩ := arr_ofQ hAO1
  obtain ⟨d6, hd6, hn6⟩ := arr_ofQ hAO2
  obtain ⟨dA, hdA⟩ : ∃ dA : Nat → ClassId, dA 0 = d0 ∧ dA 1 = d1 ∧ dA 2 = d2 ∧ dA 3 = d3 ∧ dA 4 = d4 ∧ dA 5 = d5 ∧ dA 6 = d6 := ⟨fun k => match k with | 0 => d0 | 1 => d1 | 2 => d2 | 3 => d3 | 4 => d4 | 5 => d5 | _ => d6, rfl, rfl, rfl, rfl, rfl, rfl, rfl⟩
  obtain ⟨rfl, rfl, rfl, rfl, rfl, rfl, rfl⟩ := hdA
  have hK : va_K (dC, dI) vwCl (tyL dA) s := by
    refine ⟨hKc, fun k q hq => ?_⟩
    match k, hq with
    | 0, hq => cases hq; exact ⟨hd0, hn0⟩
    | 1, hq => cases hq; exact ⟨hd1, hn1⟩
    | 2, hq => cases hq; exact ⟨hd2, hn2⟩
    | 3, hq => cases hq; exact ⟨hd3, hn3⟩
    | 4, hq => cases hq; exact ⟨hd4, hn4⟩
    | 5, hq => cases hq; exact ⟨hd5, hn5⟩
    | 6, hq => cases hq; exact ⟨hd6, hn6⟩
    | k + 7, hq => simp [tyL] at hq
  have hnE : nE s := ⟨⟨hAO1, hAO2⟩, fun w hw => va_Nw.of (by revert w; decide +kernel) (hts0 w (by revert w; decide +kernel))⟩
  have h6 : s.vm.findClass RX6 = some c7 := hKn7.2.1
  obtain ⟨-, -, -, a133, -, -, -, -, -, hs133⟩ := Cond.stringRef_spec h6 (hts0 (.stringRef RX6 133 "hours are not 0 .. 100") (by decide +kernel))
  obtain ⟨-, -, -, a148, -, -, -, -, -, hs148⟩ := Cond.stringRef_spec h6 (hts0 (.stringRef RX6 148 "the load is not 0 or more") (by decide +kernel))
  obtain ⟨-, -, -, a179, -, -, -, -, -, hs179⟩ := Cond.stringRef_spec h6 (hts0 (.stringRef RX6 179 "what is not 0 .. 4") (by decide +kernel))
  obtain ⟨-, -, -, a193, -, -, -, -, -, hs193⟩ := Cond.stringRef_spec h6 (hts0 (.stringRef RX6 193 "what is not 0 .. 2") (by decide +kernel))
  obtain ⟨-, -, -, a195, -, -, -, -, -, hs195⟩ := Cond.stringRef_spec h6 (hts0 (.stringRef RX6 195 "no such board") (by decide +kernel))
  obtain ⟨-, -, -, a197, -, -, -, -, -, hs197⟩ := Cond.stringRef_spec h6 (hts0 (.stringRef RX6 197 "no such kind") (by decide +kernel))
  obtain ⟨-, -, -, a199, -, -, -, -, -, hs199⟩ := Cond.stringRef_spec h6 (hts0 (.stringRef RX6 199 "no such layer") (by decide +kernel))
  obtain ⟨-, -, -, a207, -, -, -, -, -, hs207⟩ := Cond.stringRef_spec h6 (hts0 (.stringRef RX6 207 "that board is not there") (by decide +kernel))
  obtain ⟨-, -, -, a210, -, -, -, -, -, hs210⟩ := Cond.stringRef_spec h6 (hts0 (.stringRef RX6 210 "a number is beyond its bounds") (by decide +kernel))
  obtain ⟨sa, hsa⟩ : ∃ sa : Nat → Nat, sa 133 = a133 ∧ sa 148 = a148 ∧ sa 179 = a179 ∧ sa 193 = a193 ∧ sa 195 = a195 ∧ sa 197 = a197 ∧ sa 199 = a199 ∧ sa 207 = a207 ∧ sa 210 = a210 := ⟨fun k => if k = 133 then a133 else if k = 148 then a148 else if k = 179 then a179 else if k = 193 then a193 else if k = 195 then a195 else if k = 197 then a197 else if k = 199 then a199 else if k = 207 then a207 else if k = 210 then a210 else 0, rfl, rfl, rfl, rfl, rfl, rfl, rfl, rfl, rfl⟩
  have hstr : ∀ q ∈ strs, vk_R RX6 q.1 q.2 (sa q.1) s := by
    exact List.forall_mem_cons.mpr ⟨(by show vk_R RX6 133 "hours are not 0 .. 100" (sa 133) s; rw [hsa.1]; exact vk_R.of (hts0 (.stringRef RX6 133 "hours are not 0 .. 100") (by decide +kernel)) hs133), List.forall_mem_cons.mpr ⟨(by show vk_R RX6 148 "the load is not 0 or more" (sa 148) s; rw [hsa.2.1]; exact vk_R.of (hts0 (.stringRef RX6 148 "the load is not 0 or more") (by decide +kernel)) hs148), List.forall_mem_cons.mpr ⟨(by show vk_R RX6 179 "what is not 0 .. 4" (sa 179) s; rw [hsa.2.2.1]; exact vk_R.of (hts0 (.stringRef RX6 179 "what is not 0 .. 4") (by decide +kernel)) hs179), List.forall_mem_cons.mpr ⟨(by show vk_R RX6 193 "what is not 0 .. 2" (sa 193) s; rw [hsa.2.2.2.1]; exact vk_R.of (hts0 (.stringRef RX6 193 "what is not 0 .. 2") (by decide +kernel)) hs193), List.forall_mem_cons.mpr ⟨(by show vk_R RX6 195 "no such board" (sa 195) s; rw [hsa.2.2.2.2.1]; exact vk_R.of (hts0 (.stringRef RX6 195 "no such board") (by decide +kernel)) hs195), List.forall_mem_cons.mpr ⟨(by show vk_R RX6 197 "no such kind" (sa 197) s; rw [hsa.2.2.2.2.2.1]; exact vk_R.of (hts0 (.stringRef RX6 197 "no such kind") (by decide +kernel)) hs197), List.forall_mem_cons.mpr ⟨(by show vk_R RX6 199 "no such layer" (sa 199) s; rw [hsa.2.2.2.2.2.2.1]; exact vk_R.of (hts0 (.stringRef RX6 199 "no such layer") (by decide +kernel)) hs199), List.forall_mem_cons.mpr ⟨(by show vk_R RX6 207 "that board is not there" (sa 207) s; rw [hsa.2.2.2.2.2.2.2.1]; exact vk_R.of (hts0 (.stringRef RX6 207 "that board is not there") (by decide +kernel)) hs207), List.forall_mem_cons.mpr ⟨(by show vk_R RX6 210 "a number is beyond its bounds" (sa 210) s; rw [hsa.2.2.2.2.2.2.2.2]; exact vk_R.of (hts0 (.stringRef RX6 210 "a number is beyond its bounds") (by decide +kernel)) hs210), fun _ h => absurd h List.not_mem_nil⟩⟩⟩⟩⟩⟩⟩⟩⟩
  have hexW : ∀ k, k < 3 → ∀ w ∈ exW k, w.before #[] s = true := by
    intro k hk w hw
    have hm : w ∈ lw_tbl := by
      match k, hk, hw with
      | 0, _, hw => exact exIn0 w hw
      | 1, _, hw => exact exIn1 w hw
      | 2, _, hw => exact exIn2 w hw
    exact vx_ot_at (State.WarmedH.refl s) rfl (List.all_eq_true.mp (exW_ot k hk) w hw) (hts0 w hm)
  have hZ1 : vx_Zq Bundle.tN "UNASSIGNED_STACK" Bundle.steD (fun z : Nat => s.heap.size ≤ z) s s.heap := vx_Zqof (hts0 (.laysStatic Bundle.tN "UNASSIGNED_STACK" Bundle.steD) (by decide +kernel)) (hts0 (.initialized Bundle.tN) (by decide +kernel)) (hgs (.isRef (.static Bundle.tN "UNASSIGNED_STACK" Bundle.steD)) (by decide +kernel)) hAn
  have hZ2 : vx_Zq Bundle.tN "SUPPRESSED_SENTINEL" Bundle.listD (fun z : Nat => s.heap.size ≤ z) s s.heap := vx_Zqof (hts0 (.laysStatic Bundle.tN "SUPPRESSED_SENTINEL" Bundle.listD) (by decide +kernel)) (hts0 (.initialized Bundle.tN) (by decide +kernel)) (hgs (.isRef (.static Bundle.tN "SUPPRESSED_SENTINEL" Bundle.listD)) (by decide +kernel)) hAn
  have hE : wEnvL (fun z : Nat => s.heap.size ≤ z) sa s s.heap := ⟨⟨hZ1, hZ2, hstr, hexW⟩, fun w hw => vx_ot_at (State.WarmedH.refl s) rfl (List.all_eq_true.mp lkW_ot w hw) (hts0 w (lkIn w hw)), va_Nc.of (hgs (.not (.castable nIAE nAIO)) (by decide +kernel)), va_Nc.of (hgs (.not (.castable nISE nAIO)) (by decide +kernel)), va_Nc.of (hgs (.not (.castable nISE nIAE)) (by decide +kernel))⟩
  have hl := lv_entry ([.ref b]) (n := 10) (Nat.le_of_ble_eq_true rfl)
  rw [lg_entry_eq]
  generalize (lg_sl ([Value.ref b]) ++ List.replicate (10 - (lg_sl ([Value.ref b])).length) Slot.unset).toArray = ls at hl ⊢
  have hl : lv_has ls 10 [(0, .ref b)] := hl
  have hLs31 : L < 2 ^ 31 := by omega
  obtain ⟨f9, -⟩ : ∃ z : Nat → va_E, True := ⟨fun _ => .inr (0, []), trivial⟩
  have hw : ww (dC, dI) dA (fun z : Nat => s.heap.size ≤ z) s [] f9 s.heap [] := ⟨hK, fun k q h => by simp [va_pl] at h, ⟨fun i j p q h => by simp [va_pl] at h, fun k q h => by simp [va_pl] at h⟩, va_S.rf⟩
  refine wnew (C := RX6) (T := TX6) (N := 8) (ci := 7) (fs := [.int 0, .null, .null, .null, .null, .null, .null, .int 0]) hx hb hts inlX6 tyX6 tyX6_ok hown (hts (.classLink RL 8 RX6) (by decide +kernel)) (hts (.instantiable RX6 8) (by decide +kernel)) (hts (.initialized RX6) (by decide +kernel)) hw hA rfl (by decide +kernel) (Nat.le_of_ble_eq_true rfl) (Nat.le_of_ble_eq_true rfl) dL_law_0 (fun x H hqx hw => ?_)
  obtain ⟨fx, efx⟩ : ∃ z : Nat → va_E, z = va_up f9 x (.inr (7, [.int 0, .null, .null, .null, .null, .null, .null, .int 0])) := ⟨_, rfl⟩
  have hw : ww (dC, dI) dA (fun z : Nat => s.heap.size ≤ z) s [x] fx H [] := by rw [efx]; exact hw
  have hfx : fx x = .inr (7, [.int 0, .null, .null, .null, .null, .null, .null, .int 0]) := by rw [efx]; exact va_up_self _ _ _
  refine lv_dup hx hb dL_law_3 rfl ?_
  refine lv_aload_n hx hb dL_law_4 rfl (lv_at hl 0 rfl) ?_
  refine lv_iconst (v := 0) hx hb dL_law_5 (by decide) ?_
  refine kCell (k := 0) (rest := [.ref x, .ref x]) ⟨hx, hb, hml, hown, hts⟩ (by decide) hLs31 (va_cwS 2 hts gL_law_L_cell rfl rfl rfl (by decide +kernel) ⟨Nat.le_of_ble_eq_true rfl, Nat.le_of_ble_eq_true rfl⟩) hw hA hXs hbl hbA hl.1 rfl (Nat.le_of_ble_eq_true rfl) dL_law_6 ⟨Nat.le_of_ble_eq_true rfl, Nat.le_of_ble_eq_true rfl⟩ (fun H locs hw => ?_)
  refine lv_aload_n hx hb dL_law_9 rfl (lv_at hl 0 rfl) ?_
  refine lv_iconst (v := 1) hx hb dL_law_10 (by decide) ?_
  refine kCell (k := 1) (rest := [.int (cellV xs L 0), .ref x, .ref x]) ⟨hx, hb, hml, hown, hts⟩ (by decide) hLs31 (va_cwS 2 hts gL_law_L_cell rfl rfl rfl (by decide +kernel) ⟨Nat.le_of_ble_eq_true rfl, Nat.le_of_ble_eq_true rfl⟩) hw hA hXs hbl hbA hl.1 rfl (Nat.le_of_ble_eq_true rfl) dL_law_11 ⟨Nat.le_of_ble_eq_true rfl, Nat.le_of_ble_eq_true rfl⟩ (fun H locs hw => ?_)
  refine kI_N (As := [.int (cellV xs L 0), .int (cellV xs L 1)]) (rest := [.ref x]) ⟨hx, hb, hml, hown, hts⟩ (c_X6_init l (dC, dI) dA [x] fx x (cellV xs L 0) (cellV xs L 1) (by simp) hfx) (cwI 2 hts gL_law_X6_init rfl rfl rfl (hts (.initialized RX6) (by decide +kernel)) (hts (.methodLink RL 69 yX6_init) (by decide +kernel)) (hts (.instanceMethod yX6_init) (by decide +kernel)) rfl (by decide +kernel) ⟨Nat.le_of_ble_eq_true rfl, Nat.le_of_ble_eq_true rfl⟩) hw hA (fun U hW => hnE.moved hW) (fun a U g mk h => h.blind) rfl hl.1 rfl (Nat.le_of_ble_eq_true rfl) dL_law_14 ⟨Nat.le_of_ble_eq_true rfl, Nat.le_of_ble_eq_true rfl⟩ (fun L1 f1 H locs hp hw => ?_)
  obtain ⟨ks, k0, k1, k2, k3, bs, bl, ar, le, tx, u9, pl, pb, pt, pk, pd, qk, qb, eL1, hbl9, ⟨hq0, hq1, hq2, hq3⟩, hqb, hX0, hXks, hXbs, ⟨hXk0, hXk1, hXk2, hXk3⟩, hXbd, hXar, hXle, hXtx, hXu9, hXpl, hXpb, hXpt, hXpk, hXpd, -⟩ := hp
  have eL1 : L1 = [x] ++ [ks, k0, k1, k2, k3, bs] ++ bl ++ [ar, le, tx, u9, pl, pb, pt, pk, pd] := eL1
  refine W.widen (k := 32) (n := 475) (Nat.le_of_ble_eq_true rfl) (Nat.le_of_ble_eq_true rfl) ?_
  exact law_mid hx hb hml hown hts hXs hbl hlt hE hL hr9 hlocks rfl rfl eL1 hbl9 ⟨hq0, hq1, hq2, hq3⟩ hqb hX0 hXks hXbs ⟨hXk0, hXk1, hXk2, hXk3⟩ hXbd hXar hXle hXtx hXu9 hXpl hXpb hXpt hXpk hXpd hw hl
