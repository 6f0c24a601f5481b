set_option maxHeartbeats 4000000 in
set_option maxRecDepth 100000 in
theorem h_c_X6_run (l : Launch) (hlt : l.stackTraces = false) (G : va_G) (dA : Nat → ClassId) (sa : Nat → Nat) (L : List Nat) (f : Nat → va_E) (ad : Nat → Nat) (nl nb : Nat) (q qk : Nat → Option Nat) (ai : sA) (le : sL) (bd : Nat → sB) (wt : Nat → Nat → UInt64) (kk : Nat → UInt64 × UInt64) (tt : sT) (pn : sP) (hr : Nat) (h : Nat) (hC : Cx ad L (nl + 1) nb q qk) (hR : RC ad dA (nl + 1) nb q qk ai le bd wt kk tt pn hr f f) (hh : h ≤ 100) (hGR : GR nl nb kk (ai, le, bd, wt, pn, hr)) (hh3 : hr < 2 ^ 29) (o : Nat → Int64) (ho : f (ad 32) = aL (dA 4) 1 o) : mH l yL_run wsL_run ({ frames := 6, cells := 1, slots := 6, locals := 139 }) G dA [.ref (ad 0), .int (nI h), .ref (ad 32)] L f sa (fun r f2 => r = 0 ∧ ∃ f1 : Nat → va_E, RC ad dA (nl + 1) nb q qk (runS nl nb kk h (ai, le, bd, wt, pn, hr)).2.1 (runS nl nb kk h (ai, le, bd, wt, pn, hr)).2.2.1 (runS nl nb kk h (ai, le, bd, wt, pn, hr)).2.2.2.1 (runS nl nb kk h (ai, le, bd, wt, pn, hr)).2.2.2.2.1 kk tt (runS nl nb kk h (ai, le, bd, wt, pn, hr)).2.2.2.2.2.1 (runS nl nb kk h (ai, le, bd, wt, pn, hr)).2.2.2.2.2.2 f f1 ∧ f2 = va_up f1 (ad 32) (aL (dA 4) 1 (vp_updL o 0 (((runS nl nb kk h (ai, le, bd, wt, pn, hr)).1).toInt64)))) := by
  refine mH_of (cc := cL_run) (maxL := 4) (hh := [(0, 9, 12, 15)]) (by decide) rfl (Nat.le_of_ble_eq_true rfl) ?_
  intro p e s m below meth c A ls Q hx hb hml hown hts hlocks hA ht hE hw hl hret
  have hown : s.vm.findClass RL = some m.cls := hown
  have hl : lv_has ls 4 [(0, .ref (ad 0)), (1, .int (nI h)), (2, .ref (ad 32))] := hl
  refine lv_aload_n hx hb dL_run_0 rfl (lv_at hl 2 rfl) ?_
  refine lv_iconst (v := 0) hx hb dL_run_1 (by decide) ?_
  refine lv_aload_n hx hb dL_run_2 rfl (lv_at hl 0 rfl) ?_
  refine lv_iload_n hx hb dL_run_3 rfl (lv_at hl 1 rfl) ?_
  refine kV_I (C := RX6) (T := TX6) (N := 8) (As := [.int (nI h)]) (rest := [.int 0, .ref (ad 32)]) ⟨hx, hb, hml, hown, hts⟩ (c_X6_run l G dA L f ad nl nb q qk ai le bd wt kk tt pn hr f h hC hR hh hGR hh3) (cwV 1 hts gL_run_X6_run rfl rfl rfl (by decide +kernel) ⟨Nat.le_of_ble_eq_true rfl, Nat.le_of_ble_eq_true rfl⟩) hw hA (hC.m (by decide)) hR.x rfl rfl hl.1 rfl (Nat.le_of_ble_eq_true rfl) dL_run_4 ⟨Nat.zero_le _, Nat.zero_le _⟩ (fun r2 f1 H locs hp hw => ?_)
  obtain ⟨e1, hRz⟩ := hp
  rw [e1]
  refine lv_i2l (v := ((runS nl nb kk h (ai, le, bd, wt, pn, hr)).1).toInt64) hx hb dL_run_7 rfl ?_
  refine wst_l hx hb hw (hC.m (by decide)) ((hRz.fr (by decide) (by decide)).trans ho) 0 (by decide) (by decide) nI_0.symm dL_run_8 (fun H locs hw => ?_)
  obtain ⟨f3, ef3⟩ : ∃ z : Nat → va_E, z = va_up f1 (ad 32) (aL (dA 4) 1 (vp_updL o 0 (((runS nl nb kk h (ai, le, bd, wt, pn, hr)).1).toInt64))) := ⟨_, rfl⟩
  have hw : ww G dA A s L f3 H locs := by rw [ef3]; exact hw
  refine lv_goto (tgt := 15) hx hb dL_run_9 (by decide) ?_
  refine lv_iconst (v := 0) hx hb dL_run_15 (by decide) ?_
  refine W.widen (k := 1) (n := 6) (Nat.zero_le _) (Nat.zero_le _) ?_
  exact hret _ _ _ _ _ _ hw ⟨rfl, _, hRz, ef3⟩ dL_run_16

set_option maxHeartbeats 4000000 in
set_option maxRecDepth 100000 in
theorem h_c_X6_board (l : Launch) (hlt : l.stackTraces = false) (G : va_G) (dA : Nat → ClassId) (sa : Nat → Nat) (L : List Nat) (f : Nat → va_E) (ad : Nat → Nat) (n nb : Nat) (q qk : Nat → Option Nat) (ai : sA) (le : sL) (bd : Nat → sB) (wt : Nat → Nat → UInt64) (kk : Nat → UInt64 × UInt64) (tt : sT) (pn : sP) (hr : Nat) (j kc : Nat) (th we : UInt64) (hC : Cx ad L n nb q qk) (hR : RC ad dA n nb q qk ai le bd wt kk tt pn hr f f) (hj : j < nb) (hc : kc < 4) (h1 : inR th FP.dconst1 4645744490609377280) (h2 : inR we FP.dconst0 4613937818241073152) (hnn : vf_n64 (FP.ddiv th (FP.i2d (nI n)))) : mH l yL_board wsL_board ({ frames := 2, cells := 1, slots := 6, locals := 54 }) G dA [.ref (ad 0), .int (nI j), .double th, .double we, .int (nI kc)] L f sa (fun r f2 => r = 0 ∧ RC ad dA n nb q qk ai le (va_up bd j (1, FP.ddiv th (FP.i2d (nI n)), 0, (bd j).2.2.2.1, -1, kc)) (va_up wt j (fillTo we (wt j) n)) kk tt pn hr f f2) := by
  refine mH_of (cc := cL_board) (maxL := 8) (hh := [(0, 10, 13, 13), (0, 10, 17, 15)]) (by decide) rfl (Nat.le_of_ble_eq_true rfl) ?_
  intro p e s m below meth c A ls Q hx hb hml hown hts hlocks hA ht hE hw hl hret
  have hown : s.vm.findClass RL = some m.cls := hown
  have hl : lv_has ls 8 [(0, .ref (ad 0)), (1, .int (nI j)), (2, .double th), (4, .double we), (6, .int (nI kc))] := hl
  refine lv_aload_n hx hb dL_board_0 rfl (lv_at hl 0 rfl) ?_
  refine lv_iload_n hx hb dL_board_1 rfl (lv_at hl 1 rfl) ?_
  refine lv_dload_n hx hb dL_board_2 rfl (lv_at hl 2 rfl) ?_
  refine lv_dload hx hb dL_board_3 (lv_at hl 3 rfl) ?_
  refine lv_iload hx hb dL_board_5 (lv_at hl 4 rfl) ?_
  refine kV_V (C := RX6) (T := TX6) (N := 8) (As := [.int (nI j), .double th, .double we, .int (nI kc)]) (rest := []) ⟨hx, hb, hml, hown, hts⟩ (c_X6_board l G dA L f ad n nb q qk ai le bd wt kk tt pn hr f j kc th we hC hR hj hc h1 h2 hnn) (cwV 4 hts gL_board_X6_board rfl rfl rfl (by decide +kernel) ⟨Nat.le_of_ble_eq_true rfl, Nat.le_of_ble_eq_true rfl⟩) hw hA (hC.m (by decide)) hR.x rfl rfl hl.1 rfl (Nat.le_of_ble_eq_true rfl) dL_board_7 ⟨Nat.zero_le _, Nat.zero_le _⟩ (fun f1 H locs hp hw => ?_)
  have hRz := hp
  refine lv_goto (tgt := 21) hx hb dL_board_10 (by decide) ?_
  refine lv_iconst (v := 0) hx hb dL_board_21 (by decide) ?_
  refine W.widen (k := 1) (n := 6) (Nat.zero_le _) (Nat.zero_le _) ?_
  exact hret _ _ _ _ _ _ hw ⟨rfl, hRz⟩ dL_board_22

set_option maxHeartbeats 4000000 in
set_option maxRecDepth 100000 in
theorem h_x1_X6_board (l : Launch) (hlt : l.stackTraces = false) (G : va_G) (dA : Nat → ClassId) (sa : Nat → Nat) (L : List Nat) (f : Nat → va_E) (ad : Nat → Nat) (n nb : Nat) (q qk : Nat → Option Nat) (ai : sA) (le : sL) (bd : Nat → sB) (wt : Nat → Nat → UInt64) (kk : Nat → UInt64 × UInt64) (tt : sT) (pn : sP) (hr : Nat) (i kc : Int32) (th we : UInt64) (hC : Cx ad L n nb q qk) (hR : RC ad dA n nb q qk ai le bd wt kk tt pn hr f f) (hbad : i < 0 ∨ nI nb ≤ i) : mH l yL_board wsL_board ({ frames := 9, cells := 1, slots := 6, locals := 144 }) G dA [.ref (ad 0), .int i, .double th, .double we, .int kc] L f sa (fun r f2 => r = 1 ∧ f2 = f) := by
  refine mH_of (cc := cL_board) (maxL := 8) (hh := [(0, 10, 13, 13), (0, 10, 17, 15)]) (by decide) rfl (Nat.le_of_ble_eq_true rfl) ?_
  intro p e s m below meth c A ls Q hx hb hml hown hts hlocks hA ht hE hw hl hret
  have hown : s.vm.findClass RL = some m.cls := hown
  have hl : lv_has ls 8 [(0, .ref (ad 0)), (1, .int i), (2, .double th), (4, .double we), (6, .int kc)] := hl
  refine lv_aload_n hx hb dL_board_0 rfl (lv_at hl 0 rfl) ?_
  refine lv_iload_n hx hb dL_board_1 rfl (lv_at hl 1 rfl) ?_
  refine lv_dload_n hx hb dL_board_2 rfl (lv_at hl 2 rfl) ?_
  refine lv_dload hx hb dL_board_3 (lv_at hl 3 rfl) ?_
  refine lv_iload hx hb dL_board_5 (lv_at hl 4 rfl) ?_
  refine kX_V (C := RX6) (T := TX6) (N := 8) (As := [.int i, .double th, .double we, .int kc]) (rest := []) ⟨hx, hb, hml, hown, hts⟩ (x1_X6_board l hlt G dA sa L f ad n nb q qk ai le bd wt kk tt pn hr f i kc th we hC hR hbad) (cwV 4 hts gL_board_X6_board rfl rfl rfl (by decide +kernel) ⟨Nat.le_of_ble_eq_true rfl, Nat.le_of_ble_eq_true rfl⟩) hw hE.1 hA (hC.m (by decide)) hR.x rfl rfl hl.1 rfl (Nat.le_of_ble_eq_true rfl) dL_board_7 ⟨Nat.le_of_ble_eq_true rfl, Nat.le_of_ble_eq_true rfl⟩ (fun ce q9 H locs hw hc9 hv9 hcl9 => ?_)
  refine vx_catch (name := nAIO) (E := (exOf 0).1) hown [] ⟨0, 10, 13, 13⟩ [⟨0, 10, 17, 15⟩] (ht.trans rfl) (fun z hz => absurd hz List.not_mem_nil) (by decide) (by decide) (vx_ot_at (State.WarmedH.refl s) rfl (List.all_eq_true.mp lkW_ot _ (by decide +kernel)) (hE.2.1 (.classLink RL 13 nAIO) (by decide +kernel))) (vx_ot_at (State.WarmedH.refl s) rfl (List.all_eq_true.mp lkW_ot _ (by decide +kernel)) (hE.2.1 (.castable nAIO nAIO) (by decide +kernel))) hc9 hv9 hcl9 ?_
  show W p l e _ s m _ below meth c H locs _ _ Q (F0 m 13 ls [.ref q9])
  refine lv_astore (lv' := [(7, .ref q9), (0, .ref (ad 0)), (1, .int i), (2, .double th), (4, .double we), (6, .int kc)]) hx hb dL_board_13 hl (by decide) rfl (fun ls hl => ?_)
  refine lv_iconst (v := 1) hx hb dL_board_15 (by decide) ?_
  exact hret _ _ _ _ _ _ hw ⟨rfl, rfl⟩ dL_board_16

set_option maxHeartbeats 4000000 in
set_option maxRecDepth 100000 in
theorem h_x2_X6_board (l : Launch) (hlt : l.stackTraces = false) (G : va_G) (dA : Nat → ClassId) (sa : Nat → Nat) (L : List Nat) (f : Nat → va_E) (ad : Nat → Nat) (n nb : Nat) (q qk : Nat → Option Nat) (ai : sA) (le : sL) (bd : Nat → sB) (wt : Nat → Nat → UInt64) (kk : Nat → UInt64 × UInt64) (tt : sT) (pn : sP) (hr : Nat) (j : Nat) (i : Int32) (th we : UInt64) (hC : Cx ad L n nb q qk) (hR : RC ad dA n nb q qk ai le bd wt kk tt pn hr f f) (hj : j < nb) (hbad : i < 0 ∨ nI 4 ≤ i) : mH l yL_board wsL_board ({ frames := 9, cells := 1, slots := 6, locals := 144 }) G dA [.ref (ad 0), .int (nI j), .double th, .double we, .int i] L f sa (fun r f2 => r = 1 ∧ f2 = f) := by
  refine mH_of (cc := cL_board) (maxL := 8) (hh := [(0, 10, 13, 13), (0, 10, 17, 15)]) (by decide) rfl (Nat.le_of_ble_eq_true rfl) ?_
  intro p e s m below meth c A ls Q hx hb hml hown hts hlocks hA ht hE hw hl hret
  have hown : s.vm.findClass RL = some m.cls := hown
  have hl : lv_has ls 8 [(0, .ref (ad 0)), (1, .int (nI j)), (2, .double th), (4, .double we), (6, .int i)] := hl
  refine lv_aload_n hx hb dL_board_0 rfl (lv_at hl 0 rfl) ?_
  refine lv_iload_n hx hb dL_board_1 rfl (lv_at hl 1 rfl) ?_
  refine lv_dload_n hx hb dL_board_2 rfl (lv_at hl 2 rfl) ?_
  refine lv_dload hx hb dL_board_3 (lv_at hl 3 rfl) ?_
  refine lv_iload hx hb dL_board_5 (lv_at hl 4 rfl) ?_
  refine kX_V (C := RX6) (T := TX6) (N := 8) (As := [.int (nI j), .double th, .double we, .int i]) (rest := []) ⟨hx, hb, hml, hown, hts⟩ (x2_X6_board l hlt G dA sa L f ad n nb q qk ai le bd wt kk tt pn hr f j i th we hC hR hj hbad) (cwV 4 hts gL_board_X6_board rfl rfl rfl (by decide +kernel) ⟨Nat.le_of_ble_eq_true rfl, Nat.le_of_ble_eq_true rfl⟩) hw hE.1 hA (hC.m (by decide)) hR.x rfl rfl hl.1 rfl (Nat.le_of_ble_eq_true rfl) dL_board_7 ⟨Nat.le_of_ble_eq_true rfl, Nat.le_of_ble_eq_true rfl⟩ (fun ce q9 H locs hw hc9 hv9 hcl9 => ?_)
  refine vx_catch (name := nAIO) (E := (exOf 0).1) hown [] ⟨0, 10, 13, 13⟩ [⟨0, 10, 17, 15⟩] (ht.trans rfl) (fun z hz => absurd hz List.not_mem_nil) (by decide) (by decide) (vx_ot_at (State.WarmedH.refl s) rfl (List.all_eq_true.mp lkW_ot _ (by decide +kernel)) (hE.2.1 (.classLink RL 13 nAIO) (by decide +kernel))) (vx_ot_at (State.WarmedH.refl s) rfl (List.all_eq_true.mp lkW_ot _ (by decide +kernel)) (hE.2.1 (.castable nAIO nAIO) (by decide +kernel))) hc9 hv9 hcl9 ?_
  show W p l e _ s m _ below meth c H locs _ _ Q (F0 m 13 ls [.ref q9])
  refine lv_astore (lv' := [(7, .ref q9), (0, .ref (ad 0)), (1, .int (nI j)), (2, .double th), (4, .double we), (6, .int i)]) hx hb dL_board_13 hl (by decide) rfl (fun ls hl => ?_)
  refine lv_iconst (v := 1) hx hb dL_board_15 (by decide) ?_
  exact hret _ _ _ _ _ _ hw ⟨rfl, rfl⟩ dL_board_16

set_option maxHeartbeats 4000000 in
set_option maxRecDepth 100000 in
theorem h_x3_X6_board (l : Launch) (hlt : l.stackTraces = false) (G : va_G) (dA : Nat → ClassId) (sa : Nat → Nat) (L : List Nat) (f : Nat → va_E) (ad : Nat → Nat) (n nb : Nat) (q qk : Nat → Option Nat) (ai : sA) (le : sL) (bd : Nat → sB) (wt : Nat → Nat → UInt64) (kk : Nat → UInt64 × UInt64) (tt : sT) (pn : sP) (hr : Nat) (j kc : Nat) (th we : UInt64) (hC : Cx ad L n nb q qk) (hR : RC ad dA n nb q qk ai le bd wt kk tt pn hr f f) (hj : j < nb) (hc : kc < 4) (hbad : ¬ inR th FP.dconst1 4645744490609377280) : mH l yL_board wsL_board ({ frames := 9, cells := 1, slots := 6, locals := 148 }) G dA [.ref (ad 0), .int (nI j), .double th, .double we, .int (nI kc)] L f sa (fun r f2 => r = 2 ∧ f2 = f) := by
  refine mH_of (cc := cL_board) (maxL := 8) (hh := [(0, 10, 13, 13), (0, 10, 17, 15)]) (by decide) rfl (Nat.le_of_ble_eq_true rfl) ?_
  intro p e s m below meth c A ls Q hx hb hml hown hts hlocks hA ht hE hw hl hret
  have hown : s.vm.findClass RL = some m.cls := hown
  have hl : lv_has ls 8 [(0, .ref (ad 0)), (1, .int (nI j)), (2, .double th), (4, .double we), (6, .int (nI kc))] := hl
  refine lv_aload_n hx hb dL_board_0 rfl (lv_at hl 0 rfl) ?_
  refine lv_iload_n hx hb dL_board_1 rfl (lv_at hl 1 rfl) ?_
  refine lv_dload_n hx hb dL_board_2 rfl (lv_at hl 2 rfl) ?_
  refine lv_dload hx hb dL_board_3 (lv_at hl 3 rfl) ?_
  refine lv_iload hx hb dL_board_5 (lv_at hl 4 rfl) ?_
  refine kX_V (C := RX6) (T := TX6) (N := 8) (As := [.int (nI j), .double th, .double we, .int (nI kc)]) (rest := []) ⟨hx, hb, hml, hown, hts⟩ (x3_X6_board l hlt G dA sa L f ad n nb q qk ai le bd wt kk tt pn hr f j kc th we hC hR hj hc hbad) (cwV 4 hts gL_board_X6_board rfl rfl rfl (by decide +kernel) ⟨Nat.le_of_ble_eq_true rfl, Nat.le_of_ble_eq_true rfl⟩) hw hE.1 hA (hC.m (by decide)) hR.x rfl rfl hl.1 rfl (Nat.le_of_ble_eq_true rfl) dL_board_7 ⟨Nat.le_of_ble_eq_true rfl, Nat.le_of_ble_eq_true rfl⟩ (fun ce q9 H locs hw hc9 hv9 hcl9 => ?_)
  refine vx_catch (name := nIAE) (E := (exOf 1).1) hown [⟨0, 10, 13, 13⟩] ⟨0, 10, 17, 15⟩ [] (ht.trans rfl) (List.forall_mem_cons.mpr ⟨(Or.inr ⟨by decide, nAIO, vx_ot_at (State.WarmedH.refl s) rfl (List.all_eq_true.mp lkW_ot _ (by decide +kernel)) (hE.2.1 (.classLink RL 13 nAIO) (by decide +kernel)), hE.2.2.1⟩), fun z h => absurd h List.not_mem_nil⟩) (by decide) (by decide) (vx_ot_at (State.WarmedH.refl s) rfl (List.all_eq_true.mp lkW_ot _ (by decide +kernel)) (hE.2.1 (.classLink RL 15 nIAE) (by decide +kernel))) (vx_ot_at (State.WarmedH.refl s) rfl (List.all_eq_true.mp lkW_ot _ (by decide +kernel)) (hE.2.1 (.castable nIAE nIAE) (by decide +kernel))) hc9 hv9 hcl9 ?_
  show W p l e _ s m _ below meth c H locs _ _ Q (F0 m 17 ls [.ref q9])
  refine lv_astore (lv' := [(7, .ref q9), (0, .ref (ad 0)), (1, .int (nI j)), (2, .double th), (4, .double we), (6, .int (nI kc))]) hx hb dL_board_17 hl (by decide) rfl (fun ls hl => ?_)
  refine lv_iconst (v := 2) hx hb dL_board_19 (by decide) ?_
  exact hret _ _ _ _ _ _ hw ⟨rfl, rfl⟩ dL_board_20

set_option maxHeartbeats 4000000 in
set_option maxRecDepth 100000 in
theorem h_x4_X6_board (l : Launch) (hlt : l.stackTraces = false) (G : va_G) (dA : Nat → ClassId) (sa : Nat → Nat) (L : List Nat) (f : Nat → va_E) (ad : Nat → Nat) (n nb : Nat) (q qk : Nat → Option Nat) (ai : sA) (le : sL) (bd : Nat → sB) (wt : Nat → Nat → UInt64) (kk : Nat → UInt64 × UInt64) (tt : sT) (pn : sP) (hr : Nat) (j kc : Nat) (th we : UInt64) (hC : Cx ad L n nb q qk) (hR : RC ad dA n nb q qk ai le bd wt kk tt pn hr f f) (hj : j < nb) (hc : kc < 4) (h1 : inR th FP.dconst1 4645744490609377280) (hbad : ¬ inR we FP.dconst0 4613937818241073152) : mH l yL_board wsL_board ({ frames := 9, cells := 1, slots := 6, locals := 148 }) G dA [.ref (ad 0), .int (nI j), .double th, .double we, .int (nI kc)] L f sa (fun r f2 => r = 2 ∧ f2 = f) := by
  refine mH_of (cc := cL_board) (maxL := 8) (hh := [(0, 10, 13, 13), (0, 10, 17, 15)]) (by decide) rfl (Nat.le_of_ble_eq_true rfl) ?_
  intro p e s m below meth c A ls Q hx hb hml hown hts hlocks hA ht hE hw hl hret
  have hown : s.vm.findClass RL = some m.cls := hown
  have hl : lv_has ls 8 [(0, .ref (ad 0)), (1, .int (nI j)), (2, .double th), (4, .double we), (6, .int (nI kc))] := hl
  refine lv_aload_n hx hb dL_board_0 rfl (lv_at hl 0 rfl) ?_
  refine lv_iload_n hx hb dL_board_1 rfl (lv_at hl 1 rfl) ?_
  refine lv_dload_n hx hb dL_board_2 rfl (lv_at hl 2 rfl) ?_
  refine lv_dload hx hb dL_board_3 (lv_at hl 3 rfl) ?_
  refine lv_iload hx hb dL_board_5 (lv_at hl 4 rfl) ?_
  refine kX_V (C := RX6) (T := TX6) (N := 8) (As := [.int (nI j), .double th, .double we, .int (nI kc)]) (rest := []) ⟨hx, hb, hml, hown, hts⟩ (x4_X6_board l hlt G dA sa L f ad n nb q qk ai le bd wt kk tt pn hr f j kc th we hC hR hj hc h1 hbad) (cwV 4 hts gL_board_X6_board rfl rfl rfl (by decide +kernel) ⟨Nat.le_of_ble_eq_true rfl, Nat.le_of_ble_eq_true rfl⟩) hw hE.1 hA (hC.m (by decide)) hR.x rfl rfl hl.1 rfl (Nat.le_of_ble_eq_true rfl) dL_board_7 ⟨Nat.le_of_ble_eq_true rfl, Nat.le_of_ble_eq_true rfl⟩ (fun ce q9 H locs hw hc9 hv9 hcl9 => ?_)
  refine vx_catch (name := nIAE) (E := (exOf 1).1) hown [⟨0, 10, 13, 13⟩] ⟨0, 10, 17, 15⟩ [] (ht.trans rfl) (List.forall_mem_cons.mpr ⟨(Or.inr ⟨by decide, nAIO, vx_ot_at (State.WarmedH.refl s) rfl (List.all_eq_true.mp lkW_ot _ (by decide +kernel)) (hE.2.1 (.classLink RL 13 nAIO) (by decide +kernel)), hE.2.2.1⟩), fun z h => absurd h List.not_mem_nil⟩) (by decide) (by decide) (vx_ot_at (State.WarmedH.refl s) rfl (List.all_eq_true.mp lkW_ot _ (by decide +kernel)) (hE.2.1 (.classLink RL 15 nIAE) (by decide +kernel))) (vx_ot_at (State.WarmedH.refl s) rfl (List.all_eq_true.mp lkW_ot _ (by decide +kernel)) (hE.2.1 (.castable nIAE nIAE) (by decide +kernel))) hc9 hv9 hcl9 ?_
  show W p l e _ s m _ below meth c H locs _ _ Q (F0 m 17 ls [.ref q9])
  refine lv_astore (lv' := [(7, .ref q9), (0, .ref (ad 0)), (1, .int (nI j)), (2, .double th), (4, .double we), (6, .int (nI kc))]) hx hb dL_board_17 hl (by decide) rfl (fun ls hl => ?_)
  refine lv_iconst (v := 2) hx hb dL_board_19 (by decide) ?_
  exact hret _ _ _ _ _ _ hw ⟨rfl, rfl⟩ dL_board_20

set_option maxHeartbeats 4000000 in
set_option maxRecDepth 100000 in
theorem h_c_X6_rate (l : Launch) (hlt : l.stackTraces = false) (G : va_G) (dA : Nat → ClassId) (sa : Nat → Nat) (L : List Nat) (f : Nat → va_E) (ad : Nat → Nat) (n nb : Nat) (q qk : Nat → Option Nat) (ai : sA) (le : sL) (bd : Nat → sB) (wt : Nat → Nat → UInt64) (kk : Nat → UInt64 × UInt64) (tt : sT) (pn : sP) (hr : Nat) (kc : Nat) (u v : UInt64) (hC : Cx ad L n nb q qk) (hR : RC ad dA n nb q qk ai le bd wt kk tt pn hr f f) (hc : kc < 4) (h1 : inR u FP.dconst0 4620693217682128896) (h2 : inR v FP.dconst0 4620693217682128896) : mH l yL_rate wsL_rate ({ frames := 2, cells := 1, slots := 6, locals := 51 }) G dA [.ref (ad 0), .int (nI kc), .double u, .double v] L f sa (fun r f2 => r = 0 ∧ RC ad dA n nb q qk ai le bd wt (va_up kk kc (u, v)) tt pn hr f f2) := by
  refine mH_of (cc := cL_rate) (maxL := 7) (hh := [(0, 8, 11, 13), (0, 8, 15, 15)]) (by decide) rfl (Nat.le_of_ble_eq_true rfl) ?_
  intro p e s m below meth c A ls Q hx hb hml hown hts hlocks hA ht hE hw hl hret
  have hown : s.vm.findClass RL = some m.cls := hown
  have hl : lv_has ls 7 [(0, .ref (ad 0)), (1, .int (nI kc)), (2, .double u), (4, .double v)] := hl
  refine lv_aload_n hx hb dL_rate_0 rfl (lv_at hl 0 rfl) ?_
  refine lv_iload_n hx hb dL_rate_1 rfl (lv_at hl 1 rfl) ?_
  refine lv_dload_n hx hb dL_rate_2 rfl (lv_at hl 2 rfl) ?_
  refine lv_dload hx hb dL_rate_3 (lv_at hl 3 rfl) ?_
  refine kV_V (C := RX6) (T := TX6) (N := 8) (As := [.int (nI kc), .double u, .double v]) (rest := []) ⟨hx, hb, hml, hown, hts⟩ (c_X6_rate l G dA L f ad n nb q qk ai le bd wt kk tt pn hr f kc u v hC hR hc h1 h2) (cwV 3 hts gL_rate_X6_rate rfl rfl rfl (by decide +kernel) ⟨Nat.le_of_ble_eq_true rfl, Nat.le_of_ble_eq_true rfl⟩) hw hA (hC.m (by decide)) hR.x rfl rfl hl.1 rfl (Nat.le_of_ble_eq_true rfl) dL_rate_5 ⟨Nat.zero_le _, Nat.zero_le _⟩ (fun f1 H locs hp hw => ?_)
  have hRz := hp
  refine lv_goto (tgt := 19) hx hb dL_rate_8 (by decide) ?_
  refine lv_iconst (v := 0) hx hb dL_rate_19 (by decide) ?_
  refine W.widen (k := 1) (n := 6) (Nat.zero_le _) (Nat.zero_le _) ?_
  exact hret _ _ _ _ _ _ hw ⟨rfl, hRz⟩ dL_rate_20

set_option maxHeartbeats 4000000 in
set_option maxRecDepth 100000 in
theorem h_x1_X6_rate (l : Launch) (hlt : l.stackTraces = false) (G : va_G) (dA : Nat → ClassId) (sa : Nat → Nat) (L : List Nat) (f : Nat → va_E) (ad : Nat → Nat) (n nb : Nat) (q qk : Nat → Option Nat) (ai : sA) (le : sL) (bd : Nat → sB) (wt : Nat → Nat → UInt64) (kk : Nat → UInt64 × UInt64) (tt : sT) (pn : sP) (hr : Nat) (i : Int32) (u v : UInt64) (hC : Cx ad L n nb q qk) (hR : RC ad dA n nb q qk ai le bd wt kk tt pn hr f f) (hbad : i < 0 ∨ nI 4 ≤ i) : mH l yL_rate wsL_rate ({ frames := 9, cells := 1, slots := 6, locals := 142 }) G dA [.ref (ad 0), .int i, .double u, .double v] L f sa (fun r f2 => r = 1 ∧ f2 = f) := by
  refine mH_of (cc := cL_rate) (maxL := 7) (hh := [(0, 8, 11, 13), (0, 8, 15, 15)]) (by decide) rfl (Nat.le_of_ble_eq_true rfl) ?_
  intro p e s m below meth c A ls Q hx hb hml hown hts hlocks hA ht hE hw hl hret
  have hown : s.vm.findClass RL = some m.cls := hown
  have hl : lv_has ls 7 [(0, .ref (ad 0)), (1, .int i), (2, .double u), (4, .double v)] := hl
  refine lv_aload_n hx hb dL_rate_0 rfl (lv_at hl 0 rfl) ?_
  refine lv_iload_n hx hb dL_rate_1 rfl (lv_at hl 1 rfl) ?_
  refine lv_dload_n hx hb dL_rate_2 rfl (lv_at hl 2 rfl) ?_
  refine lv_dload hx hb dL_rate_3 (lv_at hl 3 rfl) ?_
  refine kX_V (C := RX6) (T := TX6) (N := 8) (As := [.int i, .double u, .double v]) (rest := []) ⟨hx, hb, hml, hown, hts⟩ (x1_X6_rate l hlt G dA sa L f ad n nb q qk ai le bd wt kk tt pn hr f i u v hC hR hbad) (cwV 3 hts gL_rate_X6_rate rfl rfl rfl (by decide +kernel) ⟨Nat.le_of_ble_eq_true rfl, Nat.le_of_ble_eq_true rfl⟩) hw hE.1 hA (hC.m (by decide)) hR.x rfl rfl hl.1 rfl (Nat.le_of_ble_eq_true rfl) dL_rate_5 ⟨Nat.le_of_ble_eq_true rfl, Nat.le_of_ble_eq_true rfl⟩ (fun ce q9 H locs hw hc9 hv9 hcl9 => ?_)
  refine vx_catch (name := nAIO) (E := (exOf 0).1) hown [] ⟨0, 8, 11, 13⟩ [⟨0, 8, 15, 15⟩] (ht.trans rfl) (fun z hz => absurd hz List.not_mem_nil) (by decide) (by decide) (vx_ot_at (State.WarmedH.refl s) rfl (List.all_eq_true.mp lkW_ot _ (by decide +kernel)) (hE.2.1 (.classLink RL 13 nAIO) (by decide +kernel))) (vx_ot_at (State.WarmedH.refl s) rfl (List.all_eq_true.mp lkW_ot _ (by decide +kernel)) (hE.2.1 (.castable nAIO nAIO) (by decide +kernel))) hc9 hv9 hcl9 ?_
  show W p l e _ s m _ below meth c H locs _ _ Q (F0 m 11 ls [.ref q9])
  refine lv_astore (lv' := [(6, .ref q9), (0, .ref (ad 0)), (1, .int i), (2, .double u), (4, .double v)]) hx hb dL_rate_11 hl (by decide) rfl (fun ls hl => ?_)
  refine lv_iconst (v := 1) hx hb dL_rate_13 (by decide) ?_
  exact hret _ _ _ _ _ _ hw ⟨rfl, rfl⟩ dL_rate_14

set_option maxHeartbeats 4000000 in
set_option maxRecDepth 100000 in
theorem h_x2_X6_rate (l : Launch) (hlt : l.stackTraces = false) (G : va_G) (dA : Nat → ClassId) (sa : Nat → Nat) (L : List Nat) (f : Nat → va_E) (ad : Nat → Nat) (n nb : Nat) (q qk : Nat → Option Nat) (ai : sA) (le : sL) (bd : Nat → sB) (wt : Nat → Nat → UInt64) (kk : Nat → UInt64 × UInt64) (tt : sT) (pn : sP) (hr : Nat) (kc : Nat) (u v : UInt64) (hC : Cx ad L n nb q qk) (hR : RC ad dA n nb q qk ai le bd wt kk tt pn hr f f) (hc : kc < 4) (hbad : ¬ inR u FP.dconst0 4620693217682128896) : mH l yL_rate wsL_rate ({ frames := 9, cells := 1, slots := 6, locals := 146 }) G dA [.ref (ad 0), .int (nI kc), .double u, .double v] L f sa (fun r f2 => r = 2 ∧ f2 = f) := by
  refine mH_of (cc := cL_rate) (maxL := 7) (hh := [(0, 8, 11, 13), (0, 8, 15, 15)]) (by decide) rfl (Nat.le_of_ble_eq_true rfl) ?_
  intro p e s m below meth c A ls Q hx hb hml hown hts hlocks hA ht hE hw hl hret
  have hown : s.vm.findClass RL = some m.cls := hown
  have hl : lv_has ls 7 [(0, .ref (ad 0)), (1, .int (nI kc)), (2, .double u), (4, .double v)] := hl
  refine lv_aload_n hx hb dL_rate_0 rfl (lv_at hl 0 rfl) ?_
  refine lv_iload_n hx hb dL_rate_1 rfl (lv_at hl 1 rfl) ?_
  refine lv_dload_n hx hb dL_rate_2 rfl (lv_at hl 2 rfl) ?_
  refine lv_dload hx hb dL_rate_3 (lv_at hl 3 rfl) ?_
  refine kX_V (C := RX6) (T := TX6) (N := 8) (As := [.int (nI kc), .double u, .double v]) (rest := []) ⟨hx, hb, hml, hown, hts⟩ (x2_X6_rate l hlt G dA sa L f ad n nb q qk ai le bd wt kk tt pn hr f kc u v hC hR hc hbad) (cwV 3 hts gL_rate_X6_rate rfl rfl rfl (by decide +kernel) ⟨Nat.le_of_ble_eq_true rfl, Nat.le_of_ble_eq_true rfl⟩) hw hE.1 hA (hC.m (by decide)) hR.x rfl rfl hl.1 rfl (Nat.le_of_ble_eq_true rfl) dL_rate_5 ⟨Nat.le_of_ble_eq_true rfl, Nat.le_of_ble_eq_true rfl⟩ (fun ce q9 H locs hw hc9 hv9 hcl9 => ?_)
  refine vx_catch (name := nIAE) (E := (exOf 1).1) hown [⟨0, 8, 11, 13⟩] ⟨0, 8, 15, 15⟩ [] (ht.trans rfl) (List.forall_mem_cons.mpr ⟨(Or.inr ⟨by decide, nAIO, vx_ot_at (State.WarmedH.refl s) rfl (List.all_eq_true.mp lkW_ot _ (by decide +kernel)) (hE.2.1 (.classLink RL 13 nAIO) (by decide +kernel)), hE.2.2.1⟩), fun z h => absurd h List.not_mem_nil⟩) (by decide) (by decide) (vx_ot_at (State.WarmedH.refl s) rfl (List.all_eq_true.mp lkW_ot _ (by decide +kernel)) (hE.2.1 (.classLink RL 15 nIAE) (by decide +kernel))) (vx_ot_at (State.WarmedH.refl s) rfl (List.all_eq_true.mp lkW_ot _ (by decide +kernel)) (hE.2.1 (.castable nIAE nIAE) (by decide +kernel))) hc9 hv9 hcl9 ?_
  show W p l e _ s m _ below meth c H locs _ _ Q (F0 m 15 ls [.ref q9])
  refine lv_astore (lv' := [(6, .ref q9), (0, .ref (ad 0)), (1, .int (nI kc)), (2, .double u), (4, .double v)]) hx hb dL_rate_15 hl (by decide) rfl (fun ls hl => ?_)
  refine lv_iconst (v := 2) hx hb dL_rate_17 (by decide) ?_
  exact hret _ _ _ _ _ _ hw ⟨rfl, rfl⟩ dL_rate_18

set_option maxHeartbeats 4000000 in
set_option maxRecDepth 100000 in
theorem h_x3_X6_rate (l : Launch) (hlt : l.stackTraces = false) (G : va_G) (dA : Nat → ClassId) (sa : Nat → Nat) (L : List Nat) (f : Nat → va_E) (ad : Nat → Nat) (n nb : Nat) (q qk : Nat → Option Nat) (ai : sA) (le : sL) (bd : Nat → sB) (wt : Nat → Nat → UInt64) (kk : Nat → UInt64 × UInt64) (tt : sT) (pn : sP) (hr : Nat) (kc : Nat) (u v : UInt64) (hC : Cx ad L n nb q qk) (hR : RC ad dA n nb q qk ai le bd wt kk tt pn hr f f) (hc : kc < 4) (h1 : inR u FP.dconst0 4620693217682128896) (hbad : ¬ inR v FP.dconst0 4620693217682128896) : mH l yL_rate wsL_rate ({ frames := 9, cells := 1, slots := 6, locals := 146 }) G dA [.ref (ad 0), .int (nI kc), .double u, .double v] L f sa (fun r f2 => r = 2 ∧ f2 = f) := by
  refine mH_of (cc := cL_rate) (maxL := 7) (hh := [(0, 8, 11, 13), (0, 8, 15, 15)]) (by decide) rfl (Nat.le_of_ble_eq_true rfl) ?_
  intro p e s m below meth c A ls Q hx hb hml hown hts hlocks hA ht hE hw hl hret
  have hown : s.vm.findClass RL = some m.cls := hown
  have hl : lv_has ls 7 [(0, .ref (ad 0)), (1, .int (nI kc)), (2, .double u), (4, .double v)] := hl
  refine lv_aload_n hx hb dL_rate_0 rfl (lv_at hl 0 rfl) ?_
  refine lv_iload_n hx hb dL_rate_1 rfl (lv_at hl 1 rfl) ?_
  refine lv_dload_n hx hb dL_rate_2 rfl (lv_at hl 2 rfl) ?_
  refine lv_dload hx hb dL_rate_3 (lv_at hl 3 rfl) ?_
  refine kX_V (C := RX6) (T := TX6) (N := 8) (As := [.int (nI kc), .double u, .double v]) (rest := []) ⟨hx, hb, hml, hown, hts⟩ (x3_X6_rate l hlt G dA sa L f ad n nb q qk ai le bd wt kk tt pn hr f kc u v hC hR hc h1 hbad) (cwV 3 hts gL_rate_X6_rate rfl rfl rfl (by decide +kernel) ⟨Nat.le_of_ble_eq_true rfl, Nat.le_of_ble_eq_true rfl⟩) hw hE.1 hA (hC.m (by decide)) hR.x rfl rfl hl.1 rfl (Nat.le_of_ble_eq_true rfl) dL_rate_5 ⟨Nat.le_of_ble_eq_true rfl, Nat.le_of_ble_eq_true rfl⟩ (fun ce q9 H locs hw hc9 hv9 hcl9 => ?_)
  refine vx_catch (name := nIAE) (E := (exOf 1).1) hown [⟨0, 8, 11, 13⟩] ⟨0, 8, 15, 15⟩ [] (ht.trans rfl) (List.forall_mem_cons.mpr ⟨(Or.inr ⟨by decide, nAIO, vx_ot_at (State.WarmedH.refl s) rfl (List.all_eq_true.mp lkW_ot _ (by decide +kernel)) (hE.2.1 (.classLink RL 13 nAIO) (by decide +kernel)), hE.2.2.1⟩), fun z h => absurd h List.not_mem_nil⟩) (by decide) (by decide) (vx_ot_at (State.WarmedH.refl s) rfl (List.all_eq_true.mp lkW_ot _ (by decide +kernel)) (hE.2.1 (.classLink RL 15 nIAE) (by decide +kernel))) (vx_ot_at (State.WarmedH.refl s) rfl (List.all_eq_true.mp lkW_ot _ (by decide +kernel)) (hE.2.1 (.castable nIAE nIAE) (by decide +kernel))) hc9 hv9 hcl9 ?_
  show W p l e _ s m _ below meth c H locs _ _ Q (F0 m 15 ls [.ref q9])
  refine lv_astore (lv' := [(6, .ref q9), (0, .ref (ad 0)), (1, .int (nI kc)), (2, .double u), (4, .double v)]) hx hb dL_rate_15 hl (by decide) rfl (fun ls hl => ?_)
  refine lv_iconst (v := 2) hx hb dL_rate_17 (by decide) ?_
  exact hret _ _ _ _ _ _ hw ⟨rfl, rfl⟩ dL_rate_18

set_option maxHeartbeats 4000000 in
set_option maxRecDepth 100000 in
theorem h_c_X6_air (l : Launch) (hlt : l.stackTraces = false) (G : va_G) (dA : Nat → ClassId) (sa : Nat → Nat) (L : List Nat) (f : Nat → va_E) (ad : Nat → Nat) (n nb : Nat) (q qk : Nat → Option Nat) (ai : sA) (le : sL) (bd : Nat → sB) (wt : Nat → Nat → UInt64) (kk : Nat → UInt64 × UInt64) (tt : sT) (pn : sP) (hr : Nat) (u v zs : UInt64) (hC : Cx ad L n nb q qk) (hR : RC ad dA n nb q qk ai le bd wt kk tt pn hr f f) (h1 : inR u 4643000109586448384 4645744490609377280) (h2 : inR v FP.dconst0 FP.dconst1) (h3 : inR zs FP.dconst0 4625196817309499392) : mH l yL_air wsL_air ({ frames := 2, cells := 1, slots := 6, locals := 51 }) G dA [.ref (ad 0), .double u, .double v, .double zs] L f sa (fun r f2 => r = 0 ∧ RC ad dA n nb q qk ((u, v, zs, ai.2.2.2)) le bd wt kk tt pn hr f f2) := by
  refine mH_of (cc := cL_air) (maxL := 8) (hh := [(0, 8, 11, 15)]) (by decide) rfl (Nat.le_of_ble_eq_true rfl) ?_
  intro p e s m below meth c A ls Q hx hb hml hown hts hlocks hA ht hE hw hl hret
  have hown : s.vm.findClass RL = some m.cls := hown
  have hl : lv_has ls 8 [(0, .ref (ad 0)), (1, .double u), (3, .double v), (5, .double zs)] := hl
  refine lv_aload_n hx hb dL_air_0 rfl (lv_at hl 0 rfl) ?_
  refine lv_dload_n hx hb dL_air_1 rfl (lv_at hl 1 rfl) ?_
  refine lv_dload_n hx hb dL_air_2 rfl (lv_at hl 2 rfl) ?_
  refine lv_dload hx hb dL_air_3 (lv_at hl 3 rfl) ?_
  refine kV_V (C := RX6) (T := TX6) (N := 8) (As := [.double u, .double v, .double zs]) (rest := []) ⟨hx, hb, hml, hown, hts⟩ (c_X6_air l G dA L f ad n nb q qk ai le bd wt kk tt pn hr f u v zs hC hR h1 h2 h3) (cwV 3 hts gL_air_X6_air rfl rfl rfl (by decide +kernel) ⟨Nat.le_of_ble_eq_true rfl, Nat.le_of_ble_eq_true rfl⟩) hw hA (hC.m (by decide)) hR.x rfl rfl hl.1 rfl (Nat.le_of_ble_eq_true rfl) dL_air_5 ⟨Nat.zero_le _, Nat.zero_le _⟩ (fun f1 H locs hp hw => ?_)
  have hRz := hp
  refine lv_goto (tgt := 15) hx hb dL_air_8 (by decide) ?_
  refine lv_iconst (v := 0) hx hb dL_air_15 (by decide) ?_
  refine W.widen (k := 1) (n := 6) (Nat.zero_le _) (Nat.zero_le _) ?_
  exact hret _ _ _ _ _ _ hw ⟨rfl, hRz⟩ dL_air_16

set_option maxHeartbeats 4000000 in
set_option maxRecDepth 100000 in
theorem h_x1_X6_air (l : Launch) (hlt : l.stackTraces = false) (G : va_G) (dA : Nat → ClassId) (sa : Nat → Nat) (L : List Nat) (f : Nat → va_E) (ad : Nat → Nat) (n nb : Nat) (q qk : Nat → Option Nat) (ai : sA) (le : sL) (bd : Nat → sB) (wt : Nat → Nat → UInt64) (kk : Nat → UInt64 × UInt64) (tt : sT) (pn : sP) (hr : Nat) (u v zs : UInt64) (hC : Cx ad L n nb q qk) (hR : RC ad dA n nb q qk ai le bd wt kk tt pn hr f f) (hbad : ¬ inR u 4643000109586448384 4645744490609377280) : mH l yL_air wsL_air ({ frames := 9, cells := 1, slots := 6, locals := 146 }) G dA [.ref (ad 0), .double u, .double v, .double zs] L f sa (fun r f2 => r = 1 ∧ f2 = f) := by
  refine mH_of (cc := cL_air) (maxL := 8) (hh := [(0, 8, 11, 15)]) (by decide) rfl (Nat.le_of_ble_eq_true rfl) ?_
  intro p e s m below meth c A ls Q hx hb hml hown hts hlocks hA ht hE hw hl hret
  have hown : s.vm.findClass RL = some m.cls := hown
  have hl : lv_has ls 8 [(0, .ref (ad 0)), (1, .double u), (3, .double v), (5, .double zs)] := hl
  refine lv_aload_n hx hb dL_air_0 rfl (lv_at hl 0 rfl) ?_
  refine lv_dload_n hx hb dL_air_1 rfl (lv_at hl 1 rfl) ?_
  refine lv_dload_n hx hb dL_air_2 rfl (lv_at hl 2 rfl) ?_
  refine lv_dload hx hb dL_air_3 (lv_at hl 3 rfl) ?_
  refine kX_V (C := RX6) (T := TX6) (N := 8) (As := [.double u, .double v, .double zs]) (rest := []) ⟨hx, hb, hml, hown, hts⟩ (x1_X6_air l hlt G dA sa L f ad n nb q qk ai le bd wt kk tt pn hr f u v zs hC hR hbad) (cwV 3 hts gL_air_X6_air rfl rfl rfl (by decide +kernel) ⟨Nat.le_of_ble_eq_true rfl, Nat.le_of_ble_eq_true rfl⟩) hw hE.1 hA (hC.m (by decide)) hR.x rfl rfl hl.1 rfl (Nat.le_of_ble_eq_true rfl) dL_air_5 ⟨Nat.le_of_ble_eq_true rfl, Nat.le_of_ble_eq_true rfl⟩ (fun ce q9 H locs hw hc9 hv9 hcl9 => ?_)
  refine vx_catch (name := nIAE) (E := (exOf 1).1) hown [] ⟨0, 8, 11, 15⟩ [] (ht.trans rfl) (fun z hz => absurd hz List.not_mem_nil) (by decide) (by decide) (vx_ot_at (State.WarmedH.refl s) rfl (List.all_eq_true.mp lkW_ot _ (by decide +kernel)) (hE.2.1 (.classLink RL 15 nIAE) (by decide +kernel))) (vx_ot_at (State.WarmedH.refl s) rfl (List.all_eq_true.mp lkW_ot _ (by decide +kernel)) (hE.2.1 (.castable nIAE nIAE) (by decide +kernel))) hc9 hv9 hcl9 ?_
  show W p l e _ s m _ below meth c H locs _ _ Q (F0 m 11 ls [.ref q9])
  refine lv_astore (lv' := [(7, .ref q9), (0, .ref (ad 0)), (1, .double u), (3, .double v), (5, .double zs)]) hx hb dL_air_11 hl (by decide) rfl (fun ls hl => ?_)
  refine lv_iconst (v := 1) hx hb dL_air_13 (by decide) ?_
  exact hret _ _ _ _ _ _ hw ⟨rfl, rfl⟩ dL_air_14

set_option maxHeartbeats 4000000 in
set_option maxRecDepth 100000 in
theorem h_x2_X6_air (l : Launch) (hlt : l.stackTraces = false) (G : va_G) (dA : Nat → ClassId) (sa : Nat → Nat) (L : List Nat) (f : Nat → va_E) (ad : Nat → Nat) (n nb : Nat) (q qk : Nat → Option Nat) (ai : sA) (le : sL) (bd : Nat → sB) (wt : Nat → Nat → UInt64) (kk : Nat → UInt64 × UInt64) (tt : sT) (pn : sP) (hr : Nat) (u v zs : UInt64) (hC : Cx ad L n nb q qk) (hR : RC ad dA n nb q qk ai le bd wt kk tt pn hr f f) (h1 : inR u 4643000109586448384 4645744490609377280) (hbad : ¬ inR v FP.dconst0 FP.dconst1) : mH l yL_air wsL_air ({ frames := 9, cells := 1, slots := 6, locals := 146 }) G dA [.ref (ad 0), .double u, .double v, .double zs] L f sa (fun r f2 => r = 1 ∧ f2 = f) := by
  refine mH_of (cc := cL_air) (maxL := 8) (hh := [(0, 8, 11, 15)]) (by decide) rfl (Nat.le_of_ble_eq_true rfl) ?_
  intro p e s m below meth c A ls Q hx hb hml hown hts hlocks hA ht hE hw hl hret
  have hown : s.vm.findClass RL = some m.cls := hown
  have hl : lv_has ls 8 [(0, .ref (ad 0)), (1, .double u), (3, .double v), (5, .double zs)] := hl
  refine lv_aload_n hx hb dL_air_0 rfl (lv_at hl 0 rfl) ?_
  refine lv_dload_n hx hb dL_air_1 rfl (lv_at hl 1 rfl) ?_
  refine lv_dload_n hx hb dL_air_2 rfl (lv_at hl 2 rfl) ?_
  refine lv_dload hx hb dL_air_3 (lv_at hl 3 rfl) ?_
  refine kX_V (C := RX6) (T := TX6) (N := 8) (As := [.double u, .double v, .double zs]) (rest := []) ⟨hx, hb, hml, hown, hts⟩ (x2_X6_air l hlt G dA sa L f ad n nb q qk ai le bd wt kk tt pn hr f u v zs hC hR h1 hbad) (cwV 3 hts gL_air_X6_air rfl rfl rfl (by decide +kernel) ⟨Nat.le_of_ble_eq_true rfl, Nat.le_of_ble_eq_true rfl⟩) hw hE.1 hA (hC.m (by decide)) hR.x rfl rfl hl.1 rfl (Nat.le_of_ble_eq_true rfl) dL_air_5 ⟨Nat.le_of_ble_eq_true rfl, Nat.le_of_ble_eq_true rfl⟩ (fun ce q9 H locs hw hc9 hv9 hcl9 => ?_)
  refine vx_catch (name := nIAE) (E := (exOf 1).1) hown [] ⟨0, 8, 11, 15⟩ [] (ht.trans rfl) (fun z hz => absurd hz List.not_mem_nil) (by decide) (by decide) (vx_ot_at (State.WarmedH.refl s) rfl (List.all_eq_true.mp lkW_ot _ (by decide +kernel)) (hE.2.1 (.classLink RL 15 nIAE) (by decide +kernel))) (vx_ot_at (State.WarmedH.refl s) rfl (List.all_eq_true.mp lkW_ot _ (by decide +kernel)) (hE.2.1 (.castable nIAE nIAE) (by decide +kernel))) hc9 hv9 hcl9 ?_
  show W p l e _ s m _ below meth c H locs _ _ Q (F0 m 11 ls [.ref q9])
  refine lv_astore (lv' := [(7, .ref q9), (0, .ref (ad 0)), (1, .double u), (3, .double v), (5, .double zs)]) hx hb dL_air_11 hl (by decide) rfl (fun ls hl => ?_)
  refine lv_iconst (v := 1) hx hb dL_air_13 (by decide) ?_
  exact hret _ _ _ _ _ _ hw ⟨rfl, rfl⟩ dL_air_14

set_option maxHeartbeats 4000000 in
set_option maxRecDepth 100000 in
theorem h_x3_X6_air (l : Launch) (hlt : l.stackTraces = false) (G : va_G) (dA : Nat → ClassId) (sa : Nat → Nat) (L : List Nat) (f : Nat → va_E) (ad : Nat → Nat) (n nb : Nat) (q qk : Nat → Option Nat) (ai : sA) (le : sL) (bd : Nat → sB) (wt : Nat → Nat → UInt64) (kk : Nat → UInt64 × UInt64) (tt : sT) (pn : sP) (hr : Nat) (u v zs : UInt64) (hC : Cx ad L n nb q qk) (hR : RC ad dA n nb q qk ai le bd wt kk tt pn hr f f) (h1 : inR u 4643000109586448384 4645744490609377280) (h2 : inR v FP.dconst0 FP.dconst1) (hbad : ¬ inR zs FP.dconst0 4625196817309499392) : mH l yL_air wsL_air ({ frames := 9, cells := 1, slots := 6, locals := 146 }) G dA [.ref (ad 0), .double u, .double v, .double zs] L f sa (fun r f2 => r = 1 ∧ f2 = f) := by
  refine mH_of (cc := cL_air) (maxL := 8) (hh := [(0, 8, 11, 15)]) (by decide) rfl (Nat.le_of_ble_eq_true rfl) ?_
  intro p e s m below meth c A ls Q hx hb hml hown hts hlocks hA ht hE hw hl hret
  have hown : s.vm.findClass RL = some m.cls := hown
  have hl : lv_has ls 8 [(0, .ref (ad 0)), (1, .double u), (3, .double v), (5, .double zs)] := hl
  refine lv_aload_n hx hb dL_air_0 rfl (lv_at hl 0 rfl) ?_
  refine lv_dload_n hx hb dL_air_1 rfl (lv_at hl 1 rfl) ?_
  refine lv_dload_n hx hb dL_air_2 rfl (lv_at hl 2 rfl) ?_
  refine lv_dload hx hb dL_air_3 (lv_at hl 3 rfl) ?_
  refine kX_V (C := RX6) (T := TX6) (N := 8) (As := [.double u, .double v, .double zs]) (rest := []) ⟨hx, hb, hml, hown, hts⟩ (x3_X6_air l hlt G dA sa L f ad n nb q qk ai le bd wt kk tt pn hr f u v zs hC hR h1 h2 hbad) (cwV 3 hts gL_air_X6_air rfl rfl rfl (by decide +kernel) ⟨Nat.le_of_ble_eq_true rfl, Nat.le_of_ble_eq_true rfl⟩) hw hE.1 hA (hC.m (by decide)) hR.x rfl rfl hl.1 rfl (Nat.le_of_ble_eq_true rfl) dL_air_5 ⟨Nat.le_of_ble_eq_true rfl, Nat.le_of_ble_eq_true rfl⟩ (fun ce q9 H locs hw hc9 hv9 hcl9 => ?_)
  refine vx_catch (name := nIAE) (E := (exOf 1).1) hown [] ⟨0, 8, 11, 15⟩ [] (ht.trans rfl) (fun z hz => absurd hz List.not_mem_nil) (by decide) (by decide) (vx_ot_at (State.WarmedH.refl s) rfl (List.all_eq_true.mp lkW_ot _ (by decide +kernel)) (hE.2.1 (.classLink RL 15 nIAE) (by decide +kernel))) (vx_ot_at (State.WarmedH.refl s) rfl (List.all_eq_true.mp lkW_ot _ (by decide +kernel)) (hE.2.1 (.castable nIAE nIAE) (by decide +kernel))) hc9 hv9 hcl9 ?_
  show W p l e _ s m _ below meth c H locs _ _ Q (F0 m 11 ls [.ref q9])
  refine lv_astore (lv' := [(7, .ref q9), (0, .ref (ad 0)), (1, .double u), (3, .double v), (5, .double zs)]) hx hb dL_air_11 hl (by decide) rfl (fun ls hl => ?_)
  refine lv_iconst (v := 1) hx hb dL_air_13 (by decide) ?_
  exact hret _ _ _ _ _ _ hw ⟨rfl, rfl⟩ dL_air_14

set_option maxHeartbeats 4000000 in
set_option maxRecDepth 100000 in
theorem h_c_X6_vent (l : Launch) (hlt : l.stackTraces = false) (G : va_G) (dA : Nat → ClassId) (sa : Nat → Nat) (L : List Nat) (f : Nat → va_E) (ad : Nat → Nat) (n nb : Nat) (q qk : Nat → Option Nat) (ai : sA) (le : sL) (bd : Nat → sB) (wt : Nat → Nat → UInt64) (kk : Nat → UInt64 × UInt64) (tt : sT) (pn : sP) (hr : Nat) (u : UInt64) (hC : Cx ad L n nb q qk) (hR : RC ad dA n nb q qk ai le bd wt kk tt pn hr f f) (h1 : inR u FP.dconst0 FP.dconst1) : mH l yL_vent wsL_vent ({ frames := 2, cells := 1, slots := 6, locals := 47 }) G dA [.ref (ad 0), .double u] L f sa (fun r f2 => r = 0 ∧ RC ad dA n nb q qk ((ai.1, ai.2.1, ai.2.2.1, u)) le bd wt kk tt pn hr f f2) := by
  refine mH_of (cc := cL_vent) (maxL := 4) (hh := [(0, 5, 8, 15)]) (by decide) rfl (Nat.le_of_ble_eq_true rfl) ?_
  intro p e s m below meth c A ls Q hx hb hml hown hts hlocks hA ht hE hw hl hret
  have hown : s.vm.findClass RL = some m.cls := hown
  have hl : lv_has ls 4 [(0, .ref (ad 0)), (1, .double u)] := hl
  refine lv_aload_n hx hb dL_vent_0 rfl (lv_at hl 0 rfl) ?_
  refine lv_dload_n hx hb dL_vent_1 rfl (lv_at hl 1 rfl) ?_
  refine kV_V (C := RX6) (T := TX6) (N := 8) (As := [.double u]) (rest := []) ⟨hx, hb, hml, hown, hts⟩ (c_X6_vent l G dA L f ad n nb q qk ai le bd wt kk tt pn hr f u hC hR h1) (cwV 1 hts gL_vent_X6_vent rfl rfl rfl (by decide +kernel) ⟨Nat.le_of_ble_eq_true rfl, Nat.le_of_ble_eq_true rfl⟩) hw hA (hC.m (by decide)) hR.x rfl rfl hl.1 rfl (Nat.le_of_ble_eq_true rfl) dL_vent_2 ⟨Nat.zero_le _, Nat.zero_le _⟩ (fun f1 H locs hp hw => ?_)
  have hRz := hp
  refine lv_goto (tgt := 11) hx hb dL_vent_5 (by decide) ?_
  refine lv_iconst (v := 0) hx hb dL_vent_11 (by decide) ?_
  refine W.widen (k := 1) (n := 6) (Nat.zero_le _) (Nat.zero_le _) ?_
  exact hret _ _ _ _ _ _ hw ⟨rfl, hRz⟩ dL_vent_12

set_option maxHeartbeats 4000000 in
set_option maxRecDepth 100000 in
theorem h_x1_X6_vent (l : Launch) (hlt : l.stackTraces = false) (G : va_G) (dA : Nat → ClassId) (sa : Nat → Nat) (L : List Nat) (f : Nat → va_E) (ad : Nat → Nat) (n nb : Nat) (q qk : Nat → Option Nat) (ai : sA) (le : sL) (bd : Nat → sB) (wt : Nat → Nat → UInt64) (kk : Nat → UInt64 × UInt64) (tt : sT) (pn : sP) (hr : Nat) (u : UInt64) (hC : Cx ad L n nb q qk) (hR : RC ad dA n nb q qk ai le bd wt kk tt pn hr f f) (hbad : ¬ inR u FP.dconst0 FP.dconst1) : mH l yL_vent wsL_vent ({ frames := 9, cells := 1, slots := 6, locals := 142 }) G dA [.ref (ad 0), .double u] L f sa (fun r f2 => r = 1 ∧ f2 = f) := by
  refine mH_of (cc := cL_vent) (maxL := 4) (hh := [(0, 5, 8, 15)]) (by decide) rfl (Nat.le_of_ble_eq_true rfl) ?_
  intro p e s m below meth c A ls Q hx hb hml hown hts hlocks hA ht hE hw hl hret
  have hown : s.vm.findClass RL = some m.cls := hown
  have hl : lv_has ls 4 [(0, .ref (ad 0)), (1, .double u)] := hl
  refine lv_aload_n hx hb dL_vent_0 rfl (lv_at hl 0 rfl) ?_
  refine lv_dload_n hx hb dL_vent_1 rfl (lv_at hl 1 rfl) ?_
  refine kX_V (C := RX6) (T := TX6) (N := 8) (As := [.double u]) (rest := []) ⟨hx, hb, hml, hown, hts⟩ (x1_X6_vent l hlt G dA sa L f ad n nb q qk ai le bd wt kk tt pn hr f u hC hR hbad) (cwV 1 hts gL_vent_X6_vent rfl rfl rfl (by decide +kernel) ⟨Nat.le_of_ble_eq_true rfl, Nat.le_of_ble_eq_true rfl⟩) hw hE.1 hA (hC.m (by decide)) hR.x rfl rfl hl.1 rfl (Nat.le_of_ble_eq_true rfl) dL_vent_2 ⟨Nat.le_of_ble_eq_true rfl, Nat.le_of_ble_eq_true rfl⟩ (fun ce q9 H locs hw hc9 hv9 hcl9 => ?_)
  refine vx_catch (name := nIAE) (E := (exOf 1).1) hown [] ⟨0, 5, 8, 15⟩ [] (ht.trans rfl) (fun z hz => absurd hz List.not_mem_nil) (by decide) (by decide) (vx_ot_at (State.WarmedH.refl s) rfl (List.all_eq_true.mp lkW_ot _ (by decide +kernel)) (hE.2.1 (.classLink RL 15 nIAE) (by decide +kernel))) (vx_ot_at (State.WarmedH.refl s) rfl (List.all_eq_true.mp lkW_ot _ (by decide +kernel)) (hE.2.1 (.castable nIAE nIAE) (by decide +kernel))) hc9 hv9 hcl9 ?_
  show W p l e _ s m _ below meth c H locs _ _ Q (F0 m 8 ls [.ref q9])
  refine lv_astore_n (lv' := [(3, .ref q9), (0, .ref (ad 0)), (1, .double u)]) hx hb dL_vent_8 rfl hl (by decide) rfl (fun ls hl => ?_)
  refine lv_iconst (v := 1) hx hb dL_vent_9 (by decide) ?_
  exact hret _ _ _ _ _ _ hw ⟨rfl, rfl⟩ dL_vent_10

set_option maxHeartbeats 4000000 in
set_option maxRecDepth 100000 in
theorem h_c_X6_soak (l : Launch) (hlt : l.stackTraces = false) (G : va_G) (dA : Nat → ClassId) (sa : Nat → Nat) (L : List Nat) (f : Nat → va_E) (ad : Nat → Nat) (n nb : Nat) (q qk : Nat → Option Nat) (ai : sA) (le : sL) (bd : Nat → sB) (wt : Nat → Nat → UInt64) (kk : Nat → UInt64 × UInt64) (tt : sT) (pn : sP) (hr : Nat) (j k : Nat) (u : UInt64) (hC : Cx ad L n nb q qk) (hR : RC ad dA n nb q qk ai le bd wt kk tt pn hr f f) (hj : j < nb) (hi : k < n) (h1 : inR u FP.dconst0 4613937818241073152) (hth : ¬ (bd j).1 = 0) : mH l yL_soak wsL_soak ({ frames := 2, cells := 1, slots := 6, locals := 50 }) G dA [.ref (ad 0), .int (nI j), .int (nI k), .double u] L f sa (fun r f2 => r = 0 ∧ RC ad dA n nb q qk ai le bd (va_up wt j (vf_upd (wt j) k u)) kk tt pn hr f f2) := by
  refine mH_of (cc := cL_soak) (maxL := 6) (hh := [(0, 7, 10, 13), (0, 7, 14, 15), (0, 7, 18, 33)]) (by decide) rfl (Nat.le_of_ble_eq_true rfl) ?_
  intro p e s m below meth c A ls Q hx hb hml hown hts hlocks hA ht hE hw hl hret
  have hown : s.vm.findClass RL = some m.cls := hown
  have hl : lv_has ls 6 [(0, .ref (ad 0)), (1, .int (nI j)), (2, .int (nI k)), (3, .double u)] := hl
  refine lv_aload_n hx hb dL_soak_0 rfl (lv_at hl 0 rfl) ?_
  refine lv_iload_n hx hb dL_soak_1 rfl (lv_at hl 1 rfl) ?_
  refine lv_iload_n hx hb dL_soak_2 rfl (lv_at hl 2 rfl) ?_
  refine lv_dload_n hx hb dL_soak_3 rfl (lv_at hl 3 rfl) ?_
  refine kV_V (C := RX6) (T := TX6) (N := 8) (As := [.int (nI j), .int (nI k), .double u]) (rest := []) ⟨hx, hb, hml, hown, hts⟩ (c_X6_soak l G dA L f ad n nb q qk ai le bd wt kk tt pn hr f j k u hC hR hj hi h1 hth) (cwV 3 hts gL_soak_X6_soak rfl rfl rfl (by decide +kernel) ⟨Nat.le_of_ble_eq_true rfl, Nat.le_of_ble_eq_true rfl⟩) hw hA (hC.m (by decide)) hR.x rfl rfl hl.1 rfl (Nat.le_of_ble_eq_true rfl) dL_soak_4 ⟨Nat.zero_le _, Nat.zero_le _⟩ (fun f1 H locs hp hw => ?_)
  have hRz := hp
  refine lv_goto (tgt := 22) hx hb dL_soak_7 (by decide) ?_
  refine lv_iconst (v := 0) hx hb dL_soak_22 (by decide) ?_
  refine W.widen (k := 1) (n := 6) (Nat.zero_le _) (Nat.zero_le _) ?_
  exact hret _ _ _ _ _ _ hw ⟨rfl, hRz⟩ dL_soak_23

set_option maxHeartbeats 4000000 in
set_option maxRecDepth 100000 in
theorem h_x1_X6_soak (l : Launch) (hlt : l.stackTraces = false) (G : va_G) (dA : Nat → ClassId) (sa : Nat → Nat) (L : List Nat) (f : Nat → va_E) (ad : Nat → Nat) (n nb : Nat) (q qk : Nat → Option Nat) (ai : sA) (le : sL) (bd : Nat → sB) (wt : Nat → Nat → UInt64) (kk : Nat → UInt64 × UInt64) (tt : sT) (pn : sP) (hr : Nat) (i k : Int32) (u : UInt64) (hC : Cx ad L n nb q qk) (hR : RC ad dA n nb q qk ai le bd wt kk tt pn hr f f) (hbad : i < 0 ∨ nI nb ≤ i) : mH l yL_soak wsL_soak ({ frames := 9, cells := 1, slots := 6, locals := 141 }) G dA [.ref (ad 0), .int i, .int k, .double u] L f sa (fun r f2 => r = 1 ∧ f2 = f) := by
  refine mH_of (cc := cL_soak) (maxL := 6) (hh := [(0, 7, 10, 13), (0, 7, 14, 15), (0, 7, 18, 33)]) (by decide) rfl (Nat.le_of_ble_eq_true rfl) ?_
  intro p e s m below meth c A ls Q hx hb hml hown hts hlocks hA ht hE hw hl hret
  have hown : s.vm.findClass RL = some m.cls := hown
  have hl : lv_has ls 6 [(0, .ref (ad 0)), (1, .int i), (2, .int k), (3, .double u)] := hl
  refine lv_aload_n hx hb dL_soak_0 rfl (lv_at hl 0 rfl) ?_
  refine lv_iload_n hx hb dL_soak_1 rfl (lv_at hl 1 rfl) ?_
  refine lv_iload_n hx hb dL_soak_2 rfl (lv_at hl 2 rfl) ?_
  refine lv_dload_n hx hb dL_soak_3 rfl (lv_at hl 3 rfl) ?_
  refine kX_V (C := RX6) (T := TX6) (N := 8) (As := [.int i, .int k, .double u]) (rest := []) ⟨hx, hb, hml, hown, hts⟩ (x1_X6_soak l hlt G dA sa L f ad n nb q qk ai le bd wt kk tt pn hr f i k u hC hR hbad) (cwV 3 hts gL_soak_X6_soak rfl rfl rfl (by decide +kernel) ⟨Nat.le_of_ble_eq_true rfl, Nat.le_of_ble_eq_true rfl⟩) hw hE.1 hA (hC.m (by decide)) hR.x rfl rfl hl.1 rfl (Nat.le_of_ble_eq_true rfl) dL_soak_4 ⟨Nat.le_of_ble_eq_true rfl, Nat.le_of_ble_eq_true rfl⟩ (fun ce q9 H locs hw hc9 hv9 hcl9 => ?_)
  refine vx_catch (name := nAIO) (E := (exOf 0).1) hown [] ⟨0, 7, 10, 13⟩ [⟨0, 7, 14, 15⟩, ⟨0, 7, 18, 33⟩] (ht.trans rfl) (fun z hz => absurd hz List.not_mem_nil) (by decide) (by decide) (vx_ot_at (State.WarmedH.refl s) rfl (List.all_eq_true.mp lkW_ot _ (by decide +kernel)) (hE.2.1 (.classLink RL 13 nAIO) (by decide +kernel))) (vx_ot_at (State.WarmedH.refl s) rfl (List.all_eq_true.mp lkW_ot _ (by decide +kernel)) (hE.2.1 (.castable nAIO nAIO) (by decide +kernel))) hc9 hv9 hcl9 ?_
  show W p l e _ s m _ below meth c H locs _ _ Q (F0 m 10 ls [.ref q9])
  refine lv_astore (lv' := [(5, .ref q9), (0, .ref (ad 0)), (1, .int i), (2, .int k), (3, .double u)]) hx hb dL_soak_10 hl (by decide) rfl (fun ls hl => ?_)
  refine lv_iconst (v := 1) hx hb dL_soak_12 (by decide) ?_
  exact hret _ _ _ _ _ _ hw ⟨rfl, rfl⟩ dL_soak_13

set_option maxHeartbeats 4000000 in
set_option maxRecDepth 100000 in
theorem h_x2_X6_soak (l : Launch) (hlt : l.stackTraces = false) (G : va_G) (dA : Nat → ClassId) (sa : Nat → Nat) (L : List Nat) (f : Nat → va_E) (ad : Nat → Nat) (n nb : Nat) (q qk : Nat → Option Nat) (ai : sA) (le : sL) (bd : Nat → sB) (wt : Nat → Nat → UInt64) (kk : Nat → UInt64 × UInt64) (tt : sT) (pn : sP) (hr : Nat) (j : Nat) (i : Int32) (u : UInt64) (hC : Cx ad L n nb q qk) (hR : RC ad dA n nb q qk ai le bd wt kk tt pn hr f f) (hj : j < nb) (hbad : i < 0 ∨ nI n ≤ i) : mH l yL_soak wsL_soak ({ frames := 9, cells := 1, slots := 6, locals := 141 }) G dA [.ref (ad 0), .int (nI j), .int i, .double u] L f sa (fun r f2 => r = 1 ∧ f2 = f) := by
  refine mH_of (cc := cL_soak) (maxL := 6) (hh := [(0, 7, 10, 13), (0, 7, 14, 15), (0, 7, 18, 33)]) (by decide) rfl (Nat.le_of_ble_eq_true rfl) ?_
  intro p e s m below meth c A ls Q hx hb hml hown hts hlocks hA ht hE hw hl hret
  have hown : s.vm.findClass RL = some m.cls := hown
  have hl : lv_has ls 6 [(0, .ref (ad 0)), (1, .int (nI j)), (2, .int i), (3, .double u)] := hl
  refine lv_aload_n hx hb dL_soak_0 rfl (lv_at hl 0 rfl) ?_
  refine lv_iload_n hx hb dL_soak_1 rfl (lv_at hl 1 rfl) ?_
  refine lv_iload_n hx hb dL_soak_2 rfl (lv_at hl 2 rfl) ?_
  refine lv_dload_n hx hb dL_soak_3 rfl (lv_at hl 3 rfl) ?_
  refine kX_V (C := RX6) (T := TX6) (N := 8) (As := [.int (nI j), .int i, .double u]) (rest := []) ⟨hx, hb, hml, hown, hts⟩ (x2_X6_soak l hlt G dA sa L f ad n nb q qk ai le bd wt kk tt pn hr f j i u hC hR hj hbad) (cwV 3 hts gL_soak_X6_soak rfl rfl rfl (by decide +kernel) ⟨Nat.le_of_ble_eq_true rfl, Nat.le_of_ble_eq_true rfl⟩) hw hE.1 hA (hC.m (by decide)) hR.x rfl rfl hl.1 rfl (Nat.le_of_ble_eq_true rfl) dL_soak_4 ⟨Nat.le_of_ble_eq_true rfl, Nat.le_of_ble_eq_true rfl⟩ (fun ce q9 H locs hw hc9 hv9 hcl9 => ?_)
  refine vx_catch (name := nAIO) (E := (exOf 0).1) hown [] ⟨0, 7, 10, 13⟩ [⟨0, 7, 14, 15⟩, ⟨0, 7, 18, 33⟩] (ht.trans rfl) (fun z hz => absurd hz List.not_mem_nil) (by decide) (by decide) (vx_ot_at (State.WarmedH.refl s) rfl (List.all_eq_true.mp lkW_ot _ (by decide +kernel)) (hE.2.1 (.classLink RL 13 nAIO) (by decide +kernel))) (vx_ot_at (State.WarmedH.refl s) rfl (List.all_eq_true.mp lkW_ot _ (by decide +kernel)) (hE.2.1 (.castable nAIO nAIO) (by decide +kernel))) hc9 hv9 hcl9 ?_
  show W p l e _ s m _ below meth c H locs _ _ Q (F0 m 10 ls [.ref q9])
  refine lv_astore (lv' := [(5, .ref q9), (0, .ref (ad 0)), (1, .int (nI j)), (2, .int i), (3, .double u)]) hx hb dL_soak_10 hl (by decide) rfl (fun ls hl => ?_)
  refine lv_iconst (v := 1) hx hb dL_soak_12 (by decide) ?_
  exact hret _ _ _ _ _ _ hw ⟨rfl, rfl⟩ dL_soak_13

set_option maxHeartbeats 4000000 in
set_option maxRecDepth 100000 in
theorem h_x3_X6_soak (l : Launch) (hlt : l.stackTraces = false) (G : va_G) (dA : Nat → ClassId) (sa : Nat → Nat) (L : List Nat) (f : Nat → va_E) (ad : Nat → Nat) (n nb : Nat) (q qk : Nat → Option Nat) (ai : sA) (le : sL) (bd : Nat → sB) (wt : Nat → Nat → UInt64) (kk : Nat → UInt64 × UInt64) (tt : sT) (pn : sP) (hr : Nat) (j k : Nat) (u : UInt64) (hC : Cx ad L n nb q qk) (hR : RC ad dA n nb q qk ai le bd wt kk tt pn hr f f) (hj : j < nb) (hi : k < n) (hbad : ¬ inR u FP.dconst0 4613937818241073152) : mH l yL_soak wsL_soak ({ frames := 9, cells := 1, slots := 6, locals := 145 }) G dA [.ref (ad 0), .int (nI j), .int (nI k), .double u] L f sa (fun r f2 => r = 2 ∧ f2 = f) := by
  refine mH_of (cc := cL_soak) (maxL := 6) (hh := [(0, 7, 10, 13), (0, 7, 14, 15), (0, 7, 18, 33)]) (by decide) rfl (Nat.le_of_ble_eq_true rfl) ?_
  intro p e s m below meth c A ls Q hx hb hml hown hts hlocks hA ht hE hw hl hret
  have hown : s.vm.findClass RL = some m.cls := hown
  have hl : lv_has ls 6 [(0, .ref (ad 0)), (1, .int (nI j)), (2, .int (nI k)), (3, .double u)] := hl
  refine lv_aload_n hx hb dL_soak_0 rfl (lv_at hl 0 rfl) ?_
  refine lv_iload_n hx hb dL_soak_1 rfl (lv_at hl 1 rfl) ?_
  refine lv_iload_n hx hb dL_soak_2 rfl (lv_at hl 2 rfl) ?_
  refine lv_dload_n hx hb dL_soak_3 rfl (lv_at hl 3 rfl) ?_
  refine kX_V (C := RX6) (T := TX6) (N := 8) (As := [.int (nI j), .int (nI k), .double u]) (rest := []) ⟨hx, hb, hml, hown, hts⟩ (x3_X6_soak l hlt G dA sa L f ad n nb q qk ai le bd wt kk tt pn hr f j k u hC hR hj hi hbad) (cwV 3 hts gL_soak_X6_soak rfl rfl rfl (by decide +kernel) ⟨Nat.le_of_ble_eq_true rfl, Nat.le_of_ble_eq_true rfl⟩) hw hE.1 hA (hC.m (by decide)) hR.x rfl rfl hl.1 rfl (Nat.le_of_ble_eq_true rfl) dL_soak_4 ⟨Nat.le_of_ble_eq_true rfl, Nat.le_of_ble_eq_true rfl⟩ (fun ce q9 H locs hw hc9 hv9 hcl9 => ?_)
  refine vx_catch (name := nIAE) (E := (exOf 1).1) hown [⟨0, 7, 10, 13⟩] ⟨0, 7, 14, 15⟩ [⟨0, 7, 18, 33⟩] (ht.trans rfl) (List.forall_mem_cons.mpr ⟨(Or.inr ⟨by decide, nAIO, vx_ot_at (State.WarmedH.refl s) rfl (List.all_eq_true.mp lkW_ot _ (by decide +kernel)) (hE.2.1 (.classLink RL 13 nAIO) (by decide +kernel)), hE.2.2.1⟩), fun z h => absurd h List.not_mem_nil⟩) (by decide) (by decide) (vx_ot_at (State.WarmedH.refl s) rfl (List.all_eq_true.mp lkW_ot _ (by decide +kernel)) (hE.2.1 (.classLink RL 15 nIAE) (by decide +kernel))) (vx_ot_at (State.WarmedH.refl s) rfl (List.all_eq_true.mp lkW_ot _ (by decide +kernel)) (hE.2.1 (.castable nIAE nIAE) (by decide +kernel))) hc9 hv9 hcl9 ?_
  show W p l e _ s m _ below meth c H locs _ _ Q (F0 m 14 ls [.ref q9])
  refine lv_astore (lv' := [(5, .ref q9), (0, .ref (ad 0)), (1, .int (nI j)), (2, .int (nI k)), (3, .double u)]) hx hb dL_soak_14 hl (by decide) rfl (fun ls hl => ?_)
  refine lv_iconst (v := 2) hx hb dL_soak_16 (by decide) ?_
  exact hret _ _ _ _ _ _ hw ⟨rfl, rfl⟩ dL_soak_17

set_option maxHeartbeats 4000000 in
set_option maxRecDepth 100000 in
theorem h_x4_X6_soak (l : Launch) (hlt : l.stackTraces = false) (G : va_G) (dA : Nat → ClassId) (sa : Nat → Nat) (L : List Nat) (f : Nat → va_E) (ad : Nat → Nat) (n nb : Nat) (q qk : Nat → Option Nat) (ai : sA) (le : sL) (bd : Nat → sB) (wt : Nat → Nat → UInt64) (kk : Nat → UInt64 × UInt64) (tt : sT) (pn : sP) (hr : Nat) (j k : Nat) (u : UInt64) (hC : Cx ad L n nb q qk) (hR : RC ad dA n nb q qk ai le bd wt kk tt pn hr f f) (hj : j < nb) (hi : k < n) (h1 : inR u FP.dconst0 4613937818241073152) (hbad : (bd j).1 = 0) : mH l yL_soak wsL_soak ({ frames := 9, cells := 1, slots := 6, locals := 140 }) G dA [.ref (ad 0), .int (nI j), .int (nI k), .double u] L f sa (fun r f2 => r = 3 ∧ f2 = f) := by
  refine mH_of (cc := cL_soak) (maxL := 6) (hh := [(0, 7, 10, 13), (0, 7, 14, 15), (0, 7, 18, 33)]) (by decide) rfl (Nat.le_of_ble_eq_true rfl) ?_
  intro p e s m below meth c A ls Q hx hb hml hown hts hlocks hA ht hE hw hl hret
  have hown : s.vm.findClass RL = some m.cls := hown
  have hl : lv_has ls 6 [(0, .ref (ad 0)), (1, .int (nI j)), (2, .int (nI k)), (3, .double u)] := hl
  refine lv_aload_n hx hb dL_soak_0 rfl (lv_at hl 0 rfl) ?_
  refine lv_iload_n hx hb dL_soak_1 rfl (lv_at hl 1 rfl) ?_
  refine lv_iload_n hx hb dL_soak_2 rfl (lv_at hl 2 rfl) ?_
  refine lv_dload_n hx hb dL_soak_3 rfl (lv_at hl 3 rfl) ?_
  refine kX_V (C := RX6) (T := TX6) (N := 8) (As := [.int (nI j), .int (nI k), .double u]) (rest := []) ⟨hx, hb, hml, hown, hts⟩ (x4_X6_soak l hlt G dA sa L f ad n nb q qk ai le bd wt kk tt pn hr f j k u hC hR hj hi h1 hbad) (cwV 3 hts gL_soak_X6_soak rfl rfl rfl (by decide +kernel) ⟨Nat.le_of_ble_eq_true rfl, Nat.le_of_ble_eq_true rfl⟩) hw hE.1 hA (hC.m (by decide)) hR.x rfl rfl hl.1 rfl (Nat.le_of_ble_eq_true rfl) dL_soak_4 ⟨Nat.le_of_ble_eq_true rfl, Nat.le_of_ble_eq_true rfl⟩ (fun ce q9 H locs hw hc9 hv9 hcl9 => ?_)
  refine vx_catch (name := nISE) (E := (exOf 2).1) hown [⟨0, 7, 10, 13⟩, ⟨0, 7, 14, 15⟩] ⟨0, 7, 18, 33⟩ [] (ht.trans rfl) (List.forall_mem_cons.mpr ⟨(Or.inr ⟨by decide, nAIO, vx_ot_at (State.WarmedH.refl s) rfl (List.all_eq_true.mp lkW_ot _ (by decide +kernel)) (hE.2.1 (.classLink RL 13 nAIO) (by decide +kernel)), hE.2.2.2.1⟩), List.forall_mem_cons.mpr ⟨(Or.inr ⟨by decide, nIAE, vx_ot_at (State.WarmedH.refl s) rfl (List.all_eq_true.mp lkW_ot _ (by decide +kernel)) (hE.2.1 (.classLink RL 15 nIAE) (by decide +kernel)), hE.2.2.2.2⟩), fun z h => absurd h List.not_mem_nil⟩⟩) (by decide) (by decide) (vx_ot_at (State.WarmedH.refl s) rfl (List.all_eq_true.mp lkW_ot _ (by decide +kernel)) (hE.2.1 (.classLink RL 33 nISE) (by decide +kernel))) (vx_ot_at (State.WarmedH.refl s) rfl (List.all_eq_true.mp lkW_ot _ (by decide +kernel)) (hE.2.1 (.castable nISE nISE) (by decide +kernel))) hc9 hv9 hcl9 ?_
  show W p l e _ s m _ below meth c H locs _ _ Q (F0 m 18 ls [.ref q9])
  refine lv_astore (lv' := [(5, .ref q9), (0, .ref (ad 0)), (1, .int (nI j)), (2, .int (nI k)), (3, .double u)]) hx hb dL_soak_18 hl (by decide) rfl (fun ls hl => ?_)
  refine lv_iconst (v := 3) hx hb dL_soak_20 (by decide) ?_
  exact hret _ _ _ _ _ _ hw ⟨rfl, rfl⟩ dL_soak_21

set_option maxHeartbeats 4000000 in
set_option maxRecDepth 100000 in
theorem h_x1_X6_run (l : Launch) (hlt : l.stackTraces = false) (G : va_G) (dA : Nat → ClassId) (sa : Nat → Nat) (L : List Nat) (f : Nat → va_E) (ad : Nat → Nat) (n nb : Nat) (q qk : Nat → Option Nat) (ai : sA) (le : sL) (bd : Nat → sB) (wt : Nat → Nat → UInt64) (kk : Nat → UInt64 × UInt64) (tt : sT) (pn : sP) (hr : Nat) (i : Int32) (hC : Cx ad L n nb q qk) (hR : RC ad dA n nb q qk ai le bd wt kk tt pn hr f f) (hbad : i < 0 ∨ 100 < i) (o : Nat → Int64) (ho : f (ad 32) = aL (dA 4) 1 o) : mH l yL_run wsL_run ({ frames := 8, cells := 1, slots := 6, locals := 117 }) G dA [.ref (ad 0), .int i, .ref (ad 32)] L f sa (fun r f2 => r = 1 ∧ f2 = f) := by
  refine mH_of (cc := cL_run) (maxL := 4) (hh := [(0, 9, 12, 15)]) (by decide) rfl (Nat.le_of_ble_eq_true rfl) ?_
  intro p e s m below meth c A ls Q hx hb hml hown hts hlocks hA ht hE hw hl hret
  have hown : s.vm.findClass RL = some m.cls := hown
  have hl : lv_has ls 4 [(0, .ref (ad 0)), (1, .int i), (2, .ref (ad 32))] := hl
  refine lv_aload_n hx hb dL_run_0 rfl (lv_at hl 2 rfl) ?_
  refine lv_iconst (v := 0) hx hb dL_run_1 (by decide) ?_
  refine lv_aload_n hx hb dL_run_2 rfl (lv_at hl 0 rfl) ?_
  refine lv_iload_n hx hb dL_run_3 rfl (lv_at hl 1 rfl) ?_
  refine kX_V (C := RX6) (T := TX6) (N := 8) (As := [.int i]) (rest := [.int 0, .ref (ad 32)]) ⟨hx, hb, hml, hown, hts⟩ (x1_X6_run l hlt G dA sa L f ad n nb q qk ai le bd wt kk tt pn hr f i hC hR hbad) (cwV 1 hts gL_run_X6_run rfl rfl rfl (by decide +kernel) ⟨Nat.le_of_ble_eq_true rfl, Nat.le_of_ble_eq_true rfl⟩) hw hE.1 hA (hC.m (by decide)) hR.x rfl rfl hl.1 rfl (Nat.le_of_ble_eq_true rfl) dL_run_4 ⟨Nat.le_of_ble_eq_true rfl, Nat.le_of_ble_eq_true rfl⟩ (fun ce q9 H locs hw hc9 hv9 hcl9 => ?_)
  refine vx_catch (name := nIAE) (E := (exOf 1).1) hown [] ⟨0, 9, 12, 15⟩ [] (ht.trans rfl) (fun z hz => absurd hz List.not_mem_nil) (by decide) (by decide) (vx_ot_at (State.WarmedH.refl s) rfl (List.all_eq_true.mp lkW_ot _ (by decide +kernel)) (hE.2.1 (.classLink RL 15 nIAE) (by decide +kernel))) (vx_ot_at (State.WarmedH.refl s) rfl (List.all_eq_true.mp lkW_ot _ (by decide +kernel)) (hE.2.1 (.castable nIAE nIAE) (by decide +kernel))) hc9 hv9 hcl9 ?_
  show W p l e _ s m _ below meth c H locs _ _ Q (F0 m 12 ls [.ref q9])
  refine lv_astore_n (lv' := [(3, .ref q9), (0, .ref (ad 0)), (1, .int i), (2, .ref (ad 32))]) hx hb dL_run_12 rfl hl (by decide) rfl (fun ls hl => ?_)
  refine lv_iconst (v := 1) hx hb dL_run_13 (by decide) ?_
  exact hret _ _ _ _ _ _ hw ⟨rfl, rfl⟩ dL_run_14

set_option maxHeartbeats 4000000 in
set_option maxRecDepth 100000 in
theorem h_c_X6_limit (l : Launch) (hlt : l.stackTraces = false) (G : va_G) (dA : Nat → ClassId) (sa : Nat → Nat) (L : List Nat) (f : Nat → va_E) (ad : Nat → Nat) (n nb : Nat) (q qk : Nat → Option Nat) (ai : sA) (le : sL) (bd : Nat → sB) (wt : Nat → Nat → UInt64) (kk : Nat → UInt64 × UInt64) (tt : sT) (pn : sP) (hr : Nat) (j : Nat) (u : UInt64) (hC : Cx ad L n nb q qk) (hR : RC ad dA n nb q qk ai le bd wt kk tt pn hr f f) (hj : j < nb) (h1 : FP.dcmp u FP.dconst0 = some .gt ∨ FP.dcmp u FP.dconst0 = some .eq) (hth : ¬ (bd j).1 = 0) : mH l yL_limit wsL_limit ({ frames := 2, cells := 1, slots := 6, locals := 46 }) G dA [.ref (ad 0), .int (nI j), .double u] L f sa (fun r f2 => r = 0 ∧ RC ad dA n nb q qk ai le (va_up bd j ((bd j).1, (bd j).2.1, 1, u, -1, (bd j).2.2.2.2.2)) wt kk tt pn hr f f2) := by
  refine mH_of (cc := cL_limit) (maxL := 5) (hh := [(0, 6, 9, 13), (0, 6, 13, 15), (0, 6, 17, 33)]) (by decide) rfl (Nat.le_of_ble_eq_true rfl) ?_
  intro p e s m below meth c A ls Q hx hb hml hown hts hlocks hA ht hE hw hl hret
  have hown : s.vm.findClass RL = some m.cls := hown
  have hl : lv_has ls 5 [(0, .ref (ad 0)), (1, .int (nI j)), (2, .double u)] := hl
  refine lv_aload_n hx hb dL_limit_0 rfl (lv_at hl 0 rfl) ?_
  refine lv_iload_n hx hb dL_limit_1 rfl (lv_at hl 1 rfl) ?_
  refine lv_dload_n hx hb dL_limit_2 rfl (lv_at hl 2 rfl) ?_
  refine kV_V (C := RX6) (T := TX6) (N := 8) (As := [.int (nI j), .double u]) (rest := []) ⟨hx, hb, hml, hown, hts⟩ (c_X6_limit l G dA L f ad n nb q qk ai le bd wt kk tt pn hr f j u hC hR hj h1 hth) (cwV 2 hts gL_limit_X6_limit rfl rfl rfl (by decide +kernel) ⟨Nat.le_of_ble_eq_true rfl, Nat.le_of_ble_eq_true rfl⟩) hw hA (hC.m (by decide)) hR.x rfl rfl hl.1 rfl (Nat.le_of_ble_eq_true rfl) dL_limit_3 ⟨Nat.zero_le _, Nat.zero_le _⟩ (fun f1 H locs hp hw => ?_)
  have hRz := hp
  refine lv_goto (tgt := 21) hx hb dL_limit_6 (by decide) ?_
  refine lv_iconst (v := 0) hx hb dL_limit_21 (by decide) ?_
  refine W.widen (k := 1) (n := 6) (Nat.zero_le _) (Nat.zero_le _) ?_
  exact hret _ _ _ _ _ _ hw ⟨rfl, hRz⟩ dL_limit_22

set_option maxHeartbeats 4000000 in
set_option maxRecDepth 100000 in
theorem h_x1_X6_limit (l : Launch) (hlt : l.stackTraces = false) (G : va_G) (dA : Nat → ClassId) (sa : Nat → Nat) (L : List Nat) (f : Nat → va_E) (ad : Nat → Nat) (n nb : Nat) (q qk : Nat → Option Nat) (ai : sA) (le : sL) (bd : Nat → sB) (wt : Nat → Nat → UInt64) (kk : Nat → UInt64 × UInt64) (tt : sT) (pn : sP) (hr : Nat) (i : Int32) (u : UInt64) (hC : Cx ad L n nb q qk) (hR : RC ad dA n nb q qk ai le bd wt kk tt pn hr f f) (hbad : i < 0 ∨ nI nb ≤ i) : mH l yL_limit wsL_limit ({ frames := 9, cells := 1, slots := 6, locals := 140 }) G dA [.ref (ad 0), .int i, .double u] L f sa (fun r f2 => r = 1 ∧ f2 = f) := by
  refine mH_of (cc := cL_limit) (maxL := 5) (hh := [(0, 6, 9, 13), (0, 6, 13, 15), (0, 6, 17, 33)]) (by decide) rfl (Nat.le_of_ble_eq_true rfl) ?_
  intro p e s m below meth c A ls Q hx hb hml hown hts hlocks hA ht hE hw hl hret
  have hown : s.vm.findClass RL = some m.cls := hown
  have hl : lv_has ls 5 [(0, .ref (ad 0)), (1, .int i), (2, .double u)] := hl
  refine lv_aload_n hx hb dL_limit_0 rfl (lv_at hl 0 rfl) ?_
  refine lv_iload_n hx hb dL_limit_1 rfl (lv_at hl 1 rfl) ?_
  refine lv_dload_n hx hb dL_limit_2 rfl (lv_at hl 2 rfl) ?_
  refine kX_V (C := RX6) (T := TX6) (N := 8) (As := [.int i, .double u]) (rest := []) ⟨hx, hb, hml, hown, hts⟩ (x1_X6_limit l hlt G dA sa L f ad n nb q qk ai le bd wt kk tt pn hr f i u hC hR hbad) (cwV 2 hts gL_limit_X6_limit rfl rfl rfl (by decide +kernel) ⟨Nat.le_of_ble_eq_true rfl, Nat.le_of_ble_eq_true rfl⟩) hw hE.1 hA (hC.m (by decide)) hR.x rfl rfl hl.1 rfl (Nat.le_of_ble_eq_true rfl) dL_limit_3 ⟨Nat.le_of_ble_eq_true rfl, Nat.le_of_ble_eq_true rfl⟩ (fun ce q9 H locs hw hc9 hv9 hcl9 => ?_)
  refine vx_catch (name := nAIO) (E := (exOf 0).1) hown [] ⟨0, 6, 9, 13⟩ [⟨0, 6, 13, 15⟩, ⟨0, 6, 17, 33⟩] (ht.trans rfl) (fun z hz => absurd hz List.not_mem_nil) (by decide) (by decide) (vx_ot_at (State.WarmedH.refl s) rfl (List.all_eq_true.mp lkW_ot _ (by decide +kernel)) (hE.2.1 (.classLink RL 13 nAIO) (by decide +kernel))) (vx_ot_at (State.WarmedH.refl s) rfl (List.all_eq_true.mp lkW_ot _ (by decide +kernel)) (hE.2.1 (.castable nAIO nAIO) (by decide +kernel))) hc9 hv9 hcl9 ?_
  show W p l e _ s m _ below meth c H locs _ _ Q (F0 m 9 ls [.ref q9])
  refine lv_astore (lv' := [(4, .ref q9), (0, .ref (ad 0)), (1, .int i), (2, .double u)]) hx hb dL_limit_9 hl (by decide) rfl (fun ls hl => ?_)
  refine lv_iconst (v := 1) hx hb dL_limit_11 (by decide) ?_
  exact hret _ _ _ _ _ _ hw ⟨rfl, rfl⟩ dL_limit_12

set_option maxHeartbeats 4000000 in
set_option maxRecDepth 100000 in
theorem h_x2_X6_limit (l : Launch) (hlt : l.stackTraces = false) (G : va_G) (dA : Nat → ClassId) (sa : Nat → Nat) (L : List Nat) (f : Nat → va_E) (ad : Nat → Nat) (n nb : Nat) (q qk : Nat → Option Nat) (ai : sA) (le : sL) (bd : Nat → sB) (wt : Nat → Nat → UInt64) (kk : Nat → UInt64 × UInt64) (tt : sT) (pn : sP) (hr : Nat) (j : Nat) (u : UInt64) (hC : Cx ad L n nb q qk) (hR : RC ad dA n nb q qk ai le bd wt kk tt pn hr f f) (hj : j < nb) (hbad : ¬ (FP.dcmp u FP.dconst0 = some .gt ∨ FP.dcmp u FP.dconst0 = some .eq)) : mH l yL_limit wsL_limit ({ frames := 8, cells := 1, slots := 6, locals := 119 }) G dA [.ref (ad 0), .int (nI j), .double u] L f sa (fun r f2 => r = 2 ∧ f2 = f) := by
  refine mH_of (cc := cL_limit) (maxL := 5) (hh := [(0, 6, 9, 13), (0, 6, 13, 15), (0, 6, 17, 33)]) (by decide) rfl (Nat.le_of_ble_eq_true rfl) ?_
  intro p e s m below meth c A ls Q hx hb hml hown hts hlocks hA ht hE hw hl hret
  have hown : s.vm.findClass RL = some m.cls := hown
  have hl : lv_has ls 5 [(0, .ref (ad 0)), (1, .int (nI j)), (2, .double u)] := hl
  refine lv_aload_n hx hb dL_limit_0 rfl (lv_at hl 0 rfl) ?_
  refine lv_iload_n hx hb dL_limit_1 rfl (lv_at hl 1 rfl) ?_
  refine lv_dload_n hx hb dL_limit_2 rfl (lv_at hl 2 rfl) ?_
  refine kX_V (C := RX6) (T := TX6) (N := 8) (As := [.int (nI j), .double u]) (rest := []) ⟨hx, hb, hml, hown, hts⟩ (x2_X6_limit l hlt G dA sa L f ad n nb q qk ai le bd wt kk tt pn hr f j u hC hR hj hbad) (cwV 2 hts gL_limit_X6_limit rfl rfl rfl (by decide +kernel) ⟨Nat.le_of_ble_eq_true rfl, Nat.le_of_ble_eq_true rfl⟩) hw hE.1 hA (hC.m (by decide)) hR.x rfl rfl hl.1 rfl (Nat.le_of_ble_eq_true rfl) dL_limit_3 ⟨Nat.le_of_ble_eq_true rfl, Nat.le_of_ble_eq_true rfl⟩ (fun ce q9 H locs hw hc9 hv9 hcl9 => ?_)
  refine vx_catch (name := nIAE) (E := (exOf 1).1) hown [⟨0, 6, 9, 13⟩] ⟨0, 6, 13, 15⟩ [⟨0, 6, 17, 33⟩] (ht.trans rfl) (List.forall_mem_cons.mpr ⟨(Or.inr ⟨by decide, nAIO, vx_ot_at (State.WarmedH.refl s) rfl (List.all_eq_true.mp lkW_ot _ (by decide +kernel)) (hE.2.1 (.classLink RL 13 nAIO) (by decide +kernel)), hE.2.2.1⟩), fun z h => absurd h List.not_mem_nil⟩) (by decide) (by decide) (vx_ot_at (State.WarmedH.refl s) rfl (List.all_eq_true.mp lkW_ot _ (by decide +kernel)) (hE.2.1 (.classLink RL 15 nIAE) (by decide +kernel))) (vx_ot_at (State.WarmedH.refl s) rfl (List.all_eq_true.mp lkW_ot _ (by decide +kernel)) (hE.2.1 (.castable nIAE nIAE) (by decide +kernel))) hc9 hv9 hcl9 ?_
  show W p l e _ s m _ below meth c H locs _ _ Q (F0 m 13 ls [.ref q9])
  refine lv_astore (lv' := [(4, .ref q9), (0, .ref (ad 0)), (1, .int (nI j)), (2, .double u)]) hx hb dL_limit_13 hl (by decide) rfl (fun ls hl => ?_)
  refine lv_iconst (v := 2) hx hb dL_limit_15 (by decide) ?_
  exact hret _ _ _ _ _ _ hw ⟨rfl, rfl⟩ dL_limit_16

set_option maxHeartbeats 4000000 in
set_option maxRecDepth 100000 in
theorem h_x3_X6_limit (l : Launch) (hlt : l.stackTraces = false) (G : va_G) (dA : Nat → ClassId) (sa : Nat → Nat) (L : List Nat) (f : Nat → va_E) (ad : Nat → Nat) (n nb : Nat) (q qk : Nat → Option Nat) (ai : sA) (le : sL) (bd : Nat → sB) (wt : Nat → Nat → UInt64) (kk : Nat → UInt64 × UInt64) (tt : sT) (pn : sP) (hr : Nat) (j : Nat) (u : UInt64) (hC : Cx ad L n nb q qk) (hR : RC ad dA n nb q qk ai le bd wt kk tt pn hr f f) (hj : j < nb) (h1 : FP.dcmp u FP.dconst0 = some .gt ∨ FP.dcmp u FP.dconst0 = some .eq) (hbad : (bd j).1 = 0) : mH l yL_limit wsL_limit ({ frames := 9, cells := 1, slots := 6, locals := 139 }) G dA [.ref (ad 0), .int (nI j), .double u] L f sa (fun r f2 => r = 3 ∧ f2 = f) := by
  refine mH_of (cc := cL_limit) (maxL := 5) (hh := [(0, 6, 9, 13), (0, 6, 13, 15), (0, 6, 17, 33)]) (by decide) rfl (Nat.le_of_ble_eq_true rfl) ?_
  intro p e s m below meth c A ls Q hx hb hml hown hts hlocks hA ht hE hw hl hret
  have hown : s.vm.findClass RL = some m.cls := hown
  have hl : lv_has ls 5 [(0, .ref (ad 0)), (1, .int (nI j)), (2, .double u)] := hl
  refine lv_aload_n hx hb dL_limit_0 rfl (lv_at hl 0 rfl) ?_
  refine lv_iload_n hx hb dL_limit_1 rfl (lv_at hl 1 rfl) ?_
  refine lv_dload_n hx hb dL_limit_2 rfl (lv_at hl 2 rfl) ?_
  refine kX_V (C := RX6) (T := TX6) (N := 8) (As := [.int (nI j), .double u]) (rest := []) ⟨hx, hb, hml, hown, hts⟩ (x3_X6_limit l hlt G dA sa L f ad n nb q qk ai le bd wt kk tt pn hr f j u hC hR hj h1 hbad) (cwV 2 hts gL_limit_X6_limit rfl rfl rfl (by decide +kernel) ⟨Nat.le_of_ble_eq_true rfl, Nat.le_of_ble_eq_true rfl⟩) hw hE.1 hA (hC.m (by decide)) hR.x rfl rfl hl.1 rfl (Nat.le_of_ble_eq_true rfl) dL_limit_3 ⟨Nat.le_of_ble_eq_true rfl, Nat.le_of_ble_eq_true rfl⟩ (fun ce q9 H locs hw hc9 hv9 hcl9 => ?_)
  refine vx_catch (name := nISE) (E := (exOf 2).1) hown [⟨0, 6, 9, 13⟩, ⟨0, 6, 13, 15⟩] ⟨0, 6, 17, 33⟩ [] (ht.trans rfl) (List.forall_mem_cons.mpr ⟨(Or.inr ⟨by decide, nAIO, vx_ot_at (State.WarmedH.refl s) rfl (List.all_eq_true.mp lkW_ot _ (by decide +kernel)) (hE.2.1 (.classLink RL 13 nAIO) (by decide +kernel)), hE.2.2.2.1⟩), List.forall_mem_cons.mpr ⟨(Or.inr ⟨by decide, nIAE, vx_ot_at (State.WarmedH.refl s) rfl (List.all_eq_true.mp lkW_ot _ (by decide +kernel)) (hE.2.1 (.classLink RL 15 nIAE) (by decide +kernel)), hE.2.2.2.2⟩), fun z h => absurd h List.not_mem_nil⟩⟩) (by decide) (by decide) (vx_ot_at (State.WarmedH.refl s) rfl (List.all_eq_true.mp lkW_ot _ (by decide +kernel)) (hE.2.1 (.classLink RL 33 nISE) (by decide +kernel))) (vx_ot_at (State.WarmedH.refl s) rfl (List.all_eq_true.mp lkW_ot _ (by decide +kernel)) (hE.2.1 (.castable nISE nISE) (by decide +kernel))) hc9 hv9 hcl9 ?_
  show W p l e _ s m _ below meth c H locs _ _ Q (F0 m 17 ls [.ref q9])
  refine lv_astore (lv' := [(4, .ref q9), (0, .ref (ad 0)), (1, .int (nI j)), (2, .double u)]) hx hb dL_limit_17 hl (by decide) rfl (fun ls hl => ?_)
  refine lv_iconst (v := 3) hx hb dL_limit_19 (by decide) ?_
  exact hret _ _ _ _ _ _ hw ⟨rfl, rfl⟩ dL_limit_20

set_option maxHeartbeats 4000000 in
set_option maxRecDepth 100000 in
theorem h_c_X6_check (l : Launch) (hlt : l.stackTraces = false) (G : va_G) (dA : Nat → ClassId) (sa : Nat → Nat) (L : List Nat) (f : Nat → va_E) (ad : Nat → Nat) (n nb : Nat) (q qk : Nat → Option Nat) (ai : sA) (le : sL) (bd : Nat → sB) (wt : Nat → Nat → UInt64) (kk : Nat → UInt64 × UInt64) (tt : sT) (pn : sP) (hr : Nat) (j : Nat) (hC : Cx ad L n nb q qk) (hR : RC ad dA n nb q qk ai le bd wt kk tt pn hr f f) (hj : j < nb) (hth : ¬ (bd j).1 = 0) (o : Nat → Int64) (ho : f (ad 32) = aL (dA 4) 1 o) : mH l yL_check wsL_check ({ frames := 3, cells := 1, slots := 6, locals := 64 }) G dA [.ref (ad 0), .int (nI j), .ref (ad 32)] L f sa (fun r f2 => r = 0 ∧ f2 = va_up f (ad 32) (aL (dA 4) 1 (vp_updL o 0 (((bd j).2.2.2.2.1).toInt64)))) := by
  refine mH_of (cc := cL_check) (maxL := 4) (hh := [(0, 9, 12, 13), (0, 9, 15, 33)]) (by decide) rfl (Nat.le_of_ble_eq_true rfl) ?_
  intro p e s m below meth c A ls Q hx hb hml hown hts hlocks hA ht hE hw hl hret
  have hown : s.vm.findClass RL = some m.cls := hown
  have hl : lv_has ls 4 [(0, .ref (ad 0)), (1, .int (nI j)), (2, .ref (ad 32))] := hl
  refine lv_aload_n hx hb dL_check_0 rfl (lv_at hl 2 rfl) ?_
  refine lv_iconst (v := 0) hx hb dL_check_1 (by decide) ?_
  refine lv_aload_n hx hb dL_check_2 rfl (lv_at hl 0 rfl) ?_
  refine lv_iload_n hx hb dL_check_3 rfl (lv_at hl 1 rfl) ?_
  refine kV_I (C := RX6) (T := TX6) (N := 8) (As := [.int (nI j)]) (rest := [.int 0, .ref (ad 32)]) ⟨hx, hb, hml, hown, hts⟩ (c_X6_check l G dA L f ad n nb q qk ai le bd wt kk tt pn hr f j hC hR hj hth) (cwV 1 hts gL_check_X6_check rfl rfl rfl (by decide +kernel) ⟨Nat.le_of_ble_eq_true rfl, Nat.le_of_ble_eq_true rfl⟩) hw hA (hC.m (by decide)) hR.x rfl rfl hl.1 rfl (Nat.le_of_ble_eq_true rfl) dL_check_4 ⟨Nat.zero_le _, Nat.zero_le _⟩ (fun r2 f1 H locs hp hw => ?_)
  obtain ⟨e1, e2⟩ := hp
  rw [e2] at hw
  rw [e1]
  refine lv_i2l (v := ((bd j).2.2.2.2.1).toInt64) hx hb dL_check_7 rfl ?_
  refine wst_l hx hb hw (hC.m (by decide)) ho 0 (by decide) (by decide) nI_0.symm dL_check_8 (fun H locs hw => ?_)
  obtain ⟨f3, ef3⟩ : ∃ z : Nat → va_E, z = va_up f (ad 32) (aL (dA 4) 1 (vp_updL o 0 (((bd j).2.2.2.2.1).toInt64))) := ⟨_, rfl⟩
  have hw : ww G dA A s L f3 H locs := by rw [ef3]; exact hw
  refine lv_goto (tgt := 18) hx hb dL_check_9 (by decide) ?_
  refine lv_iconst (v := 0) hx hb dL_check_18 (by decide) ?_
  refine W.widen (k := 1) (n := 6) (Nat.zero_le _) (Nat.zero_le _) ?_
  exact hret _ _ _ _ _ _ hw ⟨rfl, ef3⟩ dL_check_19

set_option maxHeartbeats 4000000 in
set_option maxRecDepth 100000 in
theorem h_x1_X6_check (l : Launch) (hlt : l.stackTraces = false) (G : va_G) (dA : Nat → ClassId) (sa : Nat → Nat) (L : List Nat) (f : Nat → va_E) (ad : Nat → Nat) (n nb : Nat) (q qk : Nat → Option Nat) (ai : sA) (le : sL) (bd : Nat → sB) (wt : Nat → Nat → UInt64) (kk : Nat → UInt64 × UInt64) (tt : sT) (pn : sP) (hr : Nat) (i : Int32) (hC : Cx ad L n nb q qk) (hR : RC ad dA n nb q qk ai le bd wt kk tt pn hr f f) (hbad : i < 0 ∨ nI nb ≤ i) (o : Nat → Int64) (ho : f (ad 32) = aL (dA 4) 1 o) : mH l yL_check wsL_check ({ frames := 10, cells := 1, slots := 6, locals := 159 }) G dA [.ref (ad 0), .int i, .ref (ad 32)] L f sa (fun r f2 => r = 1 ∧ f2 = f) := by
  refine mH_of (cc := cL_check) (maxL := 4) (hh := [(0, 9, 12, 13), (0, 9, 15, 33)]) (by decide) rfl (Nat.le_of_ble_eq_true rfl) ?_
  intro p e s m below meth c A ls Q hx hb hml hown hts hlocks hA ht hE hw hl hret
  have hown : s.vm.findClass RL = some m.cls := hown
  have hl : lv_has ls 4 [(0, .ref (ad 0)), (1, .int i), (2, .ref (ad 32))] := hl
  refine lv_aload_n hx hb dL_check_0 rfl (lv_at hl 2 rfl) ?_
  refine lv_iconst (v := 0) hx hb dL_check_1 (by decide) ?_
  refine lv_aload_n hx hb dL_check_2 rfl (lv_at hl 0 rfl) ?_
  refine lv_iload_n hx hb dL_check_3 rfl (lv_at hl 1 rfl) ?_
  refine kX_V (C := RX6) (T := TX6) (N := 8) (As := [.int i]) (rest := [.int 0, .ref (ad 32)]) ⟨hx, hb, hml, hown, hts⟩ (x1_X6_check l hlt G dA sa L f ad n nb q qk ai le bd wt kk tt pn hr f i hC hR hbad) (cwV 1 hts gL_check_X6_check rfl rfl rfl (by decide +kernel) ⟨Nat.le_of_ble_eq_true rfl, Nat.le_of_ble_eq_true rfl⟩) hw hE.1 hA (hC.m (by decide)) hR.x rfl rfl hl.1 rfl (Nat.le_of_ble_eq_true rfl) dL_check_4 ⟨Nat.le_of_ble_eq_true rfl, Nat.le_of_ble_eq_true rfl⟩ (fun ce q9 H locs hw hc9 hv9 hcl9 => ?_)
  refine vx_catch (name := nAIO) (E := (exOf 0).1) hown [] ⟨0, 9, 12, 13⟩ [⟨0, 9, 15, 33⟩] (ht.trans rfl) (fun z hz => absurd hz List.not_mem_nil) (by decide) (by decide) (vx_ot_at (State.WarmedH.refl s) rfl (List.all_eq_true.mp lkW_ot _ (by decide +kernel)) (hE.2.1 (.classLink RL 13 nAIO) (by decide +kernel))) (vx_ot_at (State.WarmedH.refl s) rfl (List.all_eq_true.mp lkW_ot _ (by decide +kernel)) (hE.2.1 (.castable nAIO nAIO) (by decide +kernel))) hc9 hv9 hcl9 ?_
  show W p l e _ s m _ below meth c H locs _ _ Q (F0 m 12 ls [.ref q9])
  refine lv_astore_n (lv' := [(3, .ref q9), (0, .ref (ad 0)), (1, .int i), (2, .ref (ad 32))]) hx hb dL_check_12 rfl hl (by decide) rfl (fun ls hl => ?_)
  refine lv_iconst (v := 1) hx hb dL_check_13 (by decide) ?_
  exact hret _ _ _ _ _ _ hw ⟨rfl, rfl⟩ dL_check_14

set_option maxHeartbeats 4000000 in
set_option maxRecDepth 100000 in
theorem h_x2_X6_check (l : Launch) (hlt : l.stackTraces = false) (G : va_G) (dA : Nat → ClassId) (sa : Nat → Nat) (L : List Nat) (f : Nat → va_E) (ad : Nat → Nat) (n nb : Nat) (q qk : Nat → Option Nat) (ai : sA) (le : sL) (bd : Nat → sB) (wt : Nat → Nat → UInt64) (kk : Nat → UInt64 × UInt64) (tt : sT) (pn : sP) (hr : Nat) (j : Nat) (hC : Cx ad L n nb q qk) (hR : RC ad dA n nb q qk ai le bd wt kk tt pn hr f f) (hj : j < nb) (hbad : (bd j).1 = 0) (o : Nat → Int64) (ho : f (ad 32) = aL (dA 4) 1 o) : mH l yL_check wsL_check ({ frames := 10, cells := 1, slots := 6, locals := 158 }) G dA [.ref (ad 0), .int (nI j), .ref (ad 32)] L f sa (fun r f2 => r = 2 ∧ f2 = f) := by
  refine mH_of (cc := cL_check) (maxL := 4) (hh := [(0, 9, 12, 13), (0, 9, 15, 33)]) (by decide) rfl (Nat.le_of_ble_eq_true rfl) ?_
  intro p e s m below meth c A ls Q hx hb hml hown hts hlocks hA ht hE hw hl hret
  have hown : s.vm.findClass RL = some m.cls := hown
  have hl : lv_has ls 4 [(0, .ref (ad 0)), (1, .int (nI j)), (2, .ref (ad 32))] := hl
  refine lv_aload_n hx hb dL_check_0 rfl (lv_at hl 2 rfl) ?_
  refine lv_iconst (v := 0) hx hb dL_check_1 (by decide) ?_
  refine lv_aload_n hx hb dL_check_2 rfl (lv_at hl 0 rfl) ?_
  refine lv_iload_n hx hb dL_check_3 rfl (lv_at hl 1 rfl) ?_
  refine kX_V (C := RX6) (T := TX6) (N := 8) (As := [.int (nI j)]) (rest := [.int 0, .ref (ad 32)]) ⟨hx, hb, hml, hown, hts⟩ (x2_X6_check l hlt G dA sa L f ad n nb q qk ai le bd wt kk tt pn hr f j hC hR hj hbad) (cwV 1 hts gL_check_X6_check rfl rfl rfl (by decide +kernel) ⟨Nat.le_of_ble_eq_true rfl, Nat.le_of_ble_eq_true rfl⟩) hw hE.1 hA (hC.m (by decide)) hR.x rfl rfl hl.1 rfl (Nat.le_of_ble_eq_true rfl) dL_check_4 ⟨Nat.le_of_ble_eq_true rfl, Nat.le_of_ble_eq_true rfl⟩ (fun ce q9 H locs hw hc9 hv9 hcl9 => ?_)
  refine vx_catch (name := nISE) (E := (exOf 2).1) hown [⟨0, 9, 12, 13⟩] ⟨0, 9, 15, 33⟩ [] (ht.trans rfl) (List.forall_mem_cons.mpr ⟨(Or.inr ⟨by decide, nAIO, vx_ot_at (State.WarmedH.refl s) rfl (List.all_eq_true.mp lkW_ot _ (by decide +kernel)) (hE.2.1 (.classLink RL 13 nAIO) (by decide +kernel)), hE.2.2.2.1⟩), fun z h => absurd h List.not_mem_nil⟩) (by decide) (by decide) (vx_ot_at (State.WarmedH.refl s) rfl (List.all_eq_true.mp lkW_ot _ (by decide +kernel)) (hE.2.1 (.classLink RL 33 nISE) (by decide +kernel))) (vx_ot_at (State.WarmedH.refl s) rfl (List.all_eq_true.mp lkW_ot _ (by decide +kernel)) (hE.2.1 (.castable nISE nISE) (by decide +kernel))) hc9 hv9 hcl9 ?_
  show W p l e _ s m _ below meth c H locs _ _ Q (F0 m 15 ls [.ref q9])
  refine lv_astore_n (lv' := [(3, .ref q9), (0, .ref (ad 0)), (1, .int (nI j)), (2, .ref (ad 32))]) hx hb dL_check_15 rfl hl (by decide) rfl (fun ls hl => ?_)
  refine lv_iconst (v := 2) hx hb dL_check_16 (by decide) ?_
  exact hret _ _ _ _ _ _ hw ⟨rfl, rfl⟩ dL_check_17

set_option maxHeartbeats 4000000 in
set_option maxRecDepth 100000 in
theorem h_c_X6_mean (l : Launch) (hlt : l.stackTraces = false) (G : va_G) (dA : Nat → ClassId) (sa : Nat → Nat) (L : List Nat) (f : Nat → va_E) (ad : Nat → Nat) (n nb : Nat) (q qk : Nat → Option Nat) (ai : sA) (le : sL) (bd : Nat → sB) (wt : Nat → Nat → UInt64) (kk : Nat → UInt64 × UInt64) (tt : sT) (pn : sP) (hr : Nat) (j : Nat) (hC : Cx ad L n nb q qk) (hR : RC ad dA n nb q qk ai le bd wt kk tt pn hr f f) (hj : j < nb) (hth : ¬ (bd j).1 = 0) (hg : ∀ i, i < n → Np (2 ^ 1076) (wt j i)) (o : Nat → UInt64) (ho : f (ad 33) = aD (dA 1) 1 o) : mH l yL_mean wsL_mean ({ frames := 3, cells := 1, slots := 6, locals := 64 }) G dA [.ref (ad 0), .int (nI j), .ref (ad 33)] L f sa (fun r f2 => r = 0 ∧ f2 = va_up f (ad 33) (aD (dA 1) 1 (vf_upd o 0 (sp_mean (wt j) n)))) := by
  refine mH_of (cc := cL_mean) (maxL := 4) (hh := [(0, 8, 11, 13), (0, 8, 14, 33)]) (by decide) rfl (Nat.le_of_ble_eq_true rfl) ?_
  intro p e s m below meth c A ls Q hx hb hml hown hts hlocks hA ht hE hw hl hret
  have hown : s.vm.findClass RL = some m.cls := hown
  have hl : lv_has ls 4 [(0, .ref (ad 0)), (1, .int (nI j)), (2, .ref (ad 33))] := hl
  refine lv_aload_n hx hb dL_mean_0 rfl (lv_at hl 2 rfl) ?_
  refine lv_iconst (v := 0) hx hb dL_mean_1 (by decide) ?_
  refine lv_aload_n hx hb dL_mean_2 rfl (lv_at hl 0 rfl) ?_
  refine lv_iload_n hx hb dL_mean_3 rfl (lv_at hl 1 rfl) ?_
  refine kV_D (C := RX6) (T := TX6) (N := 8) (As := [.int (nI j)]) (rest := [.int 0, .ref (ad 33)]) ⟨hx, hb, hml, hown, hts⟩ (c_X6_mean l G dA L f ad n nb q qk ai le bd wt kk tt pn hr f j hC hR hj hth hg) (cwV 1 hts gL_mean_X6_mean rfl rfl rfl (by decide +kernel) ⟨Nat.le_of_ble_eq_true rfl, Nat.le_of_ble_eq_true rfl⟩) hw hA (hC.m (by decide)) hR.x rfl rfl hl.1 rfl (Nat.le_of_ble_eq_true rfl) dL_mean_4 ⟨Nat.zero_le _, Nat.zero_le _⟩ (fun r2 f1 H locs hp hw => ?_)
  obtain ⟨e1, e2⟩ := hp
  rw [e2] at hw
  rw [e1]
  refine wst_d hx hb hw (hC.m (by decide)) ho 0 (by decide) (by decide) nI_0.symm dL_mean_7 (fun H locs hw => ?_)
  obtain ⟨f3, ef3⟩ : ∃ z : Nat → va_E, z = va_up f (ad 33) (aD (dA 1) 1 (vf_upd o 0 (sp_mean (wt j) n))) := ⟨_, rfl⟩
  have hw : ww G dA A s L f3 H locs := by rw [ef3]; exact hw
  refine lv_goto (tgt := 17) hx hb dL_mean_8 (by decide) ?_
  refine lv_iconst (v := 0) hx hb dL_mean_17 (by decide) ?_
  refine W.widen (k := 1) (n := 6) (Nat.zero_le _) (Nat.zero_le _) ?_
  exact hret _ _ _ _ _ _ hw ⟨rfl, ef3⟩ dL_mean_18

set_option maxHeartbeats 4000000 in
set_option maxRecDepth 100000 in
theorem h_x1_X6_mean (l : Launch) (hlt : l.stackTraces = false) (G : va_G) (dA : Nat → ClassId) (sa : Nat → Nat) (L : List Nat) (f : Nat → va_E) (ad : Nat → Nat) (n nb : Nat) (q qk : Nat → Option Nat) (ai : sA) (le : sL) (bd : Nat → sB) (wt : Nat → Nat → UInt64) (kk : Nat → UInt64 × UInt64) (tt : sT) (pn : sP) (hr : Nat) (i : Int32) (hC : Cx ad L n nb q qk) (hR : RC ad dA n nb q qk ai le bd wt kk tt pn hr f f) (hbad : i < 0 ∨ nI nb ≤ i) (o : Nat → UInt64) (ho : f (ad 33) = aD (dA 1) 1 o) : mH l yL_mean wsL_mean ({ frames := 10, cells := 1, slots := 6, locals := 159 }) G dA [.ref (ad 0), .int i, .ref (ad 33)] L f sa (fun r f2 => r = 1 ∧ f2 = f) := by
  refine mH_of (cc := cL_mean) (maxL := 4) (hh := [(0, 8, 11, 13), (0, 8, 14, 33)]) (by decide) rfl (Nat.le_of_ble_eq_true rfl) ?_
  intro p e s m below meth c A ls Q hx hb hml hown hts hlocks hA ht hE hw hl hret
  have hown : s.vm.findClass RL = some m.cls := hown
  have hl : lv_has ls 4 [(0, .ref (ad 0)), (1, .int i), (2, .ref (ad 33))] := hl
  refine lv_aload_n hx hb dL_mean_0 rfl (lv_at hl 2 rfl) ?_
  refine lv_iconst (v := 0) hx hb dL_mean_1 (by decide) ?_
  refine lv_aload_n hx hb dL_mean_2 rfl (lv_at hl 0 rfl) ?_
  refine lv_iload_n hx hb dL_mean_3 rfl (lv_at hl 1 rfl) ?_
  refine kX_V (C := RX6) (T := TX6) (N := 8) (As := [.int i]) (rest := [.int 0, .ref (ad 33)]) ⟨hx, hb, hml, hown, hts⟩ (x1_X6_mean l hlt G dA sa L f ad n nb q qk ai le bd wt kk tt pn hr f i hC hR hbad) (cwV 1 hts gL_mean_X6_mean rfl rfl rfl (by decide +kernel) ⟨Nat.le_of_ble_eq_true rfl, Nat.le_of_ble_eq_true rfl⟩) hw hE.1 hA (hC.m (by decide)) hR.x rfl rfl hl.1 rfl (Nat.le_of_ble_eq_true rfl) dL_mean_4 ⟨Nat.le_of_ble_eq_true rfl, Nat.le_of_ble_eq_true rfl⟩ (fun ce q9 H locs hw hc9 hv9 hcl9 => ?_)
  refine vx_catch (name := nAIO) (E := (exOf 0).1) hown [] ⟨0, 8, 11, 13⟩ [⟨0, 8, 14, 33⟩] (ht.trans rfl) (fun z hz => absurd hz List.not_mem_nil) (by decide) (by decide) (vx_ot_at (State.WarmedH.refl s) rfl (List.all_eq_true.mp lkW_ot _ (by decide +kernel)) (hE.2.1 (.classLink RL 13 nAIO) (by decide +kernel))) (vx_ot_at (State.WarmedH.refl s) rfl (List.all_eq_true.mp lkW_ot _ (by decide +kernel)) (hE.2.1 (.castable nAIO nAIO) (by decide +kernel))) hc9 hv9 hcl9 ?_
  show W p l e _ s m _ below meth c H locs _ _ Q (F0 m 11 ls [.ref q9])
  refine lv_astore_n (lv' := [(3, .ref q9), (0, .ref (ad 0)), (1, .int i), (2, .ref (ad 33))]) hx hb dL_mean_11 rfl hl (by decide) rfl (fun ls hl => ?_)
  refine lv_iconst (v := 1) hx hb dL_mean_12 (by decide) ?_
  exact hret _ _ _ _ _ _ hw ⟨rfl, rfl⟩ dL_mean_13

set_option maxHeartbeats 4000000 in
set_option maxRecDepth 100000 in
theorem h_x2_X6_mean (l : Launch) (hlt : l.stackTraces = false) (G : va_G) (dA : Nat → ClassId) (sa : Nat → Nat) (L : List Nat) (f : Nat → va_E) (ad : Nat → Nat) (n nb : Nat) (q qk : Nat → Option Nat) (ai : sA) (le : sL) (bd : Nat → sB) (wt : Nat → Nat → UInt64) (kk : Nat → UInt64 × UInt64) (tt : sT) (pn : sP) (hr : Nat) (j : Nat) (hC : Cx ad L n nb q qk) (hR : RC ad dA n nb q qk ai le bd wt kk tt pn hr f f) (hj : j < nb) (hbad : (bd j).1 = 0) (o : Nat → UInt64) (ho : f (ad 33) = aD (dA 1) 1 o) : mH l yL_mean wsL_mean ({ frames := 10, cells := 1, slots := 6, locals := 158 }) G dA [.ref (ad 0), .int (nI j), .ref (ad 33)] L f sa (fun r f2 => r = 2 ∧ f2 = f) := by
  refine mH_of (cc := cL_mean) (maxL := 4) (hh := [(0, 8, 11, 13), (0, 8, 14, 33)]) (by decide) rfl (Nat.le_of_ble_eq_true rfl) ?_
  intro p e s m below meth c A ls Q hx hb hml hown hts hlocks hA ht hE hw hl hret
  have hown : s.vm.findClass RL = some m.cls := hown
  have hl : lv_has ls 4 [(0, .ref (ad 0)), (1, .int (nI j)), (2, .ref (ad 33))] := hl
  refine lv_aload_n hx hb dL_mean_0 rfl (lv_at hl 2 rfl) ?_
  refine lv_iconst (v := 0) hx hb dL_mean_1 (by decide) ?_
  refine lv_aload_n hx hb dL_mean_2 rfl (lv_at hl 0 rfl) ?_
  refine lv_iload_n hx hb dL_mean_3 rfl (lv_at hl 1 rfl) ?_
  refine kX_V (C := RX6) (T := TX6) (N := 8) (As := [.int (nI j)]) (rest := [.int 0, .ref (ad 33)]) ⟨hx, hb, hml, hown, hts⟩ (x2_X6_mean l hlt G dA sa L f ad n nb q qk ai le bd wt kk tt pn hr f j hC hR hj hbad) (cwV 1 hts gL_mean_X6_mean rfl rfl rfl (by decide +kernel) ⟨Nat.le_of_ble_eq_true rfl, Nat.le_of_ble_eq_true rfl⟩) hw hE.1 hA (hC.m (by decide)) hR.x rfl rfl hl.1 rfl (Nat.le_of_ble_eq_true rfl) dL_mean_4 ⟨Nat.le_of_ble_eq_true rfl, Nat.le_of_ble_eq_true rfl⟩ (fun ce q9 H locs hw hc9 hv9 hcl9 => ?_)
  refine vx_catch (name := nISE) (E := (exOf 2).1) hown [⟨0, 8, 11, 13⟩] ⟨0, 8, 14, 33⟩ [] (ht.trans rfl) (List.forall_mem_cons.mpr ⟨(Or.inr ⟨by decide, nAIO, vx_ot_at (State.WarmedH.refl s) rfl (List.all_eq_true.mp lkW_ot _ (by decide +kernel)) (hE.2.1 (.classLink RL 13 nAIO) (by decide +kernel)), hE.2.2.2.1⟩), fun z h => absurd h List.not_mem_nil⟩) (by decide) (by decide) (vx_ot_at (State.WarmedH.refl s) rfl (List.all_eq_true.mp lkW_ot _ (by decide +kernel)) (hE.2.1 (.classLink RL 33 nISE) (by decide +kernel))) (vx_ot_at (State.WarmedH.refl s) rfl (List.all_eq_true.mp lkW_ot _ (by decide +kernel)) (hE.2.1 (.castable nISE nISE) (by decide +kernel))) hc9 hv9 hcl9 ?_
  show W p l e _ s m _ below meth c H locs _ _ Q (F0 m 14 ls [.ref q9])
  refine lv_astore_n (lv' := [(3, .ref q9), (0, .ref (ad 0)), (1, .int (nI j)), (2, .ref (ad 33))]) hx hb dL_mean_14 rfl hl (by decide) rfl (fun ls hl => ?_)
  refine lv_iconst (v := 2) hx hb dL_mean_15 (by decide) ?_
  exact hret _ _ _ _ _ _ hw ⟨rfl, rfl⟩ dL_mean_16

set_option maxHeartbeats 4000000 in
set_option maxRecDepth 100000 in
theorem h_c_X6_wet (l : Launch) (hlt : l.stackTraces = false) (G : va_G) (dA : Nat → ClassId) (sa : Nat → Nat) (L : List Nat) (f : Nat → va_E) (ad : Nat → Nat) (n nb : Nat) (q qk : Nat → Option Nat) (ai : sA) (le : sL) (bd : Nat → sB) (wt : Nat → Nat → UInt64) (kk : Nat → UInt64 × UInt64) (tt : sT) (pn : sP) (hr : Nat) (j k : Nat) (hC : Cx ad L n nb q qk) (hR : RC ad dA n nb q qk ai le bd wt kk tt pn hr f f) (hj : j < nb) (hi : k < n) (hth : ¬ (bd j).1 = 0) (o : Nat → UInt64) (ho : f (ad 33) = aD (dA 1) 1 o) : mH l yL_wet wsL_wet ({ frames := 2, cells := 1, slots := 6, locals := 44 }) G dA [.ref (ad 0), .int (nI j), .int (nI k), .ref (ad 33)] L f sa (fun r f2 => r = 0 ∧ f2 = va_up f (ad 33) (aD (dA 1) 1 (vf_upd o 0 (wt j k)))) := by
  refine mH_of (cc := cL_wet) (maxL := 5) (hh := [(0, 9, 12, 13), (0, 9, 16, 33)]) (by decide) rfl (Nat.le_of_ble_eq_true rfl) ?_
  intro p e s m below meth c A ls Q hx hb hml hown hts hlocks hA ht hE hw hl hret
  have hown : s.vm.findClass RL = some m.cls := hown
  have hl : lv_has ls 5 [(0, .ref (ad 0)), (1, .int (nI j)), (2, .int (nI k)), (3, .ref (ad 33))] := hl
  refine lv_aload_n hx hb dL_wet_0 rfl (lv_at hl 3 rfl) ?_
  refine lv_iconst (v := 0) hx hb dL_wet_1 (by decide) ?_
  refine lv_aload_n hx hb dL_wet_2 rfl (lv_at hl 0 rfl) ?_
  refine lv_iload_n hx hb dL_wet_3 rfl (lv_at hl 1 rfl) ?_
  refine lv_iload_n hx hb dL_wet_4 rfl (lv_at hl 2 rfl) ?_
  refine kV_D (C := RX6) (T := TX6) (N := 8) (As := [.int (nI j), .int (nI k)]) (rest := [.int 0, .ref (ad 33)]) ⟨hx, hb, hml, hown, hts⟩ (c_X6_wet l G dA L f ad n nb q qk ai le bd wt kk tt pn hr f j k hC hR hj hi hth) (cwV 2 hts gL_wet_X6_wet rfl rfl rfl (by decide +kernel) ⟨Nat.le_of_ble_eq_true rfl, Nat.le_of_ble_eq_true rfl⟩) hw hA (hC.m (by decide)) hR.x rfl rfl hl.1 rfl (Nat.le_of_ble_eq_true rfl) dL_wet_5 ⟨Nat.zero_le _, Nat.zero_le _⟩ (fun r2 f1 H locs hp hw => ?_)
  obtain ⟨e1, e2⟩ := hp
  rw [e2] at hw
  rw [e1]
  refine wst_d hx hb hw (hC.m (by decide)) ho 0 (by decide) (by decide) nI_0.symm dL_wet_8 (fun H locs hw => ?_)
  obtain ⟨f3, ef3⟩ : ∃ z : Nat → va_E, z = va_up f (ad 33) (aD (dA 1) 1 (vf_upd o 0 (wt j k))) := ⟨_, rfl⟩
  have hw : ww G dA A s L f3 H locs := by rw [ef3]; exact hw
  refine lv_goto (tgt := 20) hx hb dL_wet_9 (by decide) ?_
  refine lv_iconst (v := 0) hx hb dL_wet_20 (by decide) ?_
  refine W.widen (k := 1) (n := 6) (Nat.zero_le _) (Nat.zero_le _) ?_
  exact hret _ _ _ _ _ _ hw ⟨rfl, ef3⟩ dL_wet_21

set_option maxHeartbeats 4000000 in
set_option maxRecDepth 100000 in
theorem h_c_X6_stress (l : Launch) (hlt : l.stackTraces = false) (G : va_G) (dA : Nat → ClassId) (sa : Nat → Nat) (L : List Nat) (f : Nat → va_E) (ad : Nat → Nat) (n nb : Nat) (q qk : Nat → Option Nat) (ai : sA) (le : sL) (bd : Nat → sB) (wt : Nat → Nat → UInt64) (kk : Nat → UInt64 × UInt64) (tt : sT) (pn : sP) (hr : Nat) (j k : Nat) (hC : Cx ad L n nb q qk) (hR : RC ad dA n nb q qk ai le bd wt kk tt pn hr f f) (hj : j < nb) (hi : k < n) (hth : ¬ (bd j).1 = 0) (hg : ∀ i, i < n → Np (2 ^ 1076) (wt j i)) (o : Nat → UInt64) (ho : f (ad 33) = aD (dA 1) 1 o) : mH l yL_stress wsL_stress ({ frames := 3, cells := 1, slots := 6, locals := 67 }) G dA [.ref (ad 0), .int (nI j), .int (nI k), .ref (ad 33)] L f sa (fun r f2 => r = 0 ∧ f2 = va_up f (ad 33) (aD (dA 1) 1 (vf_upd o 0 (sp_stress (wt j) n k)))) := by
  refine mH_of (cc := cL_stress) (maxL := 5) (hh := [(0, 9, 12, 13), (0, 9, 16, 33)]) (by decide) rfl (Nat.le_of_ble_eq_true rfl) ?_
  intro p e s m below meth c A ls Q hx hb hml hown hts hlocks hA ht hE hw hl hret
  have hown : s.vm.findClass RL = some m.cls := hown
  have hl : lv_has ls 5 [(0, .ref (ad 0)), (1, .int (nI j)), (2, .int (nI k)), (3, .ref (ad 33))] := hl
  refine lv_aload_n hx hb dL_stress_0 rfl (lv_at hl 3 rfl) ?_
  refine lv_iconst (v := 0) hx hb dL_stress_1 (by decide) ?_
  refine lv_aload_n hx hb dL_stress_2 rfl (lv_at hl 0 rfl) ?_
  refine lv_iload_n hx hb dL_stress_3 rfl (lv_at hl 1 rfl) ?_
  refine lv_iload_n hx hb dL_stress_4 rfl (lv_at hl 2 rfl) ?_
  refine kV_D (C := RX6) (T := TX6) (N := 8) (As := [.int (nI j), .int (nI k)]) (rest := [.int 0, .ref (ad 33)]) ⟨hx, hb, hml, hown, hts⟩ (c_X6_stress l G dA L f ad n nb q qk ai le bd wt kk tt pn hr f j k hC hR hj hi hth hg) (cwV 2 hts gL_stress_X6_stress rfl rfl rfl (by decide +kernel) ⟨Nat.le_of_ble_eq_true rfl, Nat.le_of_ble_eq_true rfl⟩) hw hA (hC.m (by decide)) hR.x rfl rfl hl.1 rfl (Nat.le_of_ble_eq_true rfl) dL_stress_5 ⟨Nat.zero_le _, Nat.zero_le _⟩ (fun r2 f1 H locs hp hw => ?_)
  obtain ⟨e1, e2⟩ := hp
  rw [e2] at hw
  rw [e1]
  refine wst_d hx hb hw (hC.m (by decide)) ho 0 (by decide) (by decide) nI_0.symm dL_stress_8 (fun H locs hw => ?_)
  obtain ⟨f3, ef3⟩ : ∃ z : Nat → va_E, z = va_up f (ad 33) (aD (dA 1) 1 (vf_upd o 0 (sp_stress (wt j) n k))) := ⟨_, rfl⟩
  have hw : ww G dA A s L f3 H locs := by rw [ef3]; exact hw
  refine lv_goto (tgt := 20) hx hb dL_stress_9 (by decide) ?_
  refine lv_iconst (v := 0) hx hb dL_stress_20 (by decide) ?_
  refine W.widen (k := 1) (n := 6) (Nat.zero_le _) (Nat.zero_le _) ?_
  exact hret _ _ _ _ _ _ hw ⟨rfl, ef3⟩ dL_stress_21

set_option maxHeartbeats 4000000 in
set_option maxRecDepth 100000 in
theorem h_x1_X6_wet (l : Launch) (hlt : l.stackTraces = false) (G : va_G) (dA : Nat → ClassId) (sa : Nat → Nat) (L : List Nat) (f : Nat → va_E) (ad : Nat → Nat) (n nb : Nat) (q qk : Nat → Option Nat) (ai : sA) (le : sL) (bd : Nat → sB) (wt : Nat → Nat → UInt64) (kk : Nat → UInt64 × UInt64) (tt : sT) (pn : sP) (hr : Nat) (i k : Int32) (hC : Cx ad L n nb q qk) (hR : RC ad dA n nb q qk ai le bd wt kk tt pn hr f f) (hbad : i < 0 ∨ nI nb ≤ i) (o : Nat → UInt64) (ho : f (ad 33) = aD (dA 1) 1 o) : mH l yL_wet wsL_wet ({ frames := 9, cells := 1, slots := 6, locals := 139 }) G dA [.ref (ad 0), .int i, .int k, .ref (ad 33)] L f sa (fun r f2 => r = 1 ∧ f2 = f) := by
  refine mH_of (cc := cL_wet) (maxL := 5) (hh := [(0, 9, 12, 13), (0, 9, 16, 33)]) (by decide) rfl (Nat.le_of_ble_eq_true rfl) ?_
  intro p e s m below meth c A ls Q hx hb hml hown hts hlocks hA ht hE hw hl hret
  have hown : s.vm.findClass RL = some m.cls := hown
  have hl : lv_has ls 5 [(0, .ref (ad 0)), (1, .int i), (2, .int k), (3, .ref (ad 33))] := hl
  refine lv_aload_n hx hb dL_wet_0 rfl (lv_at hl 3 rfl) ?_
  refine lv_iconst (v := 0) hx hb dL_wet_1 (by decide) ?_
  refine lv_aload_n hx hb dL_wet_2 rfl (lv_at hl 0 rfl) ?_
  refine lv_iload_n hx hb dL_wet_3 rfl (lv_at hl 1 rfl) ?_
  refine lv_iload_n hx hb dL_wet_4 rfl (lv_at hl 2 rfl) ?_
  refine kX_V (C := RX6) (T := TX6) (N := 8) (As := [.int i, .int k]) (rest := [.int 0, .ref (ad 33)]) ⟨hx, hb, hml, hown, hts⟩ (x1_X6_wet l hlt G dA sa L f ad n nb q qk ai le bd wt kk tt pn hr f i k hC hR hbad) (cwV 2 hts gL_wet_X6_wet rfl rfl rfl (by decide +kernel) ⟨Nat.le_of_ble_eq_true rfl, Nat.le_of_ble_eq_true rfl⟩) hw hE.1 hA (hC.m (by decide)) hR.x rfl rfl hl.1 rfl (Nat.le_of_ble_eq_true rfl) dL_wet_5 ⟨Nat.le_of_ble_eq_true rfl, Nat.le_of_ble_eq_true rfl⟩ (fun ce q9 H locs hw hc9 hv9 hcl9 => ?_)
  refine vx_catch (name := nAIO) (E := (exOf 0).1) hown [] ⟨0, 9, 12, 13⟩ [⟨0, 9, 16, 33⟩] (ht.trans rfl) (fun z hz => absurd hz List.not_mem_nil) (by decide) (by decide) (vx_ot_at (State.WarmedH.refl s) rfl (List.all_eq_true.mp lkW_ot _ (by decide +kernel)) (hE.2.1 (.classLink RL 13 nAIO) (by decide +kernel))) (vx_ot_at (State.WarmedH.refl s) rfl (List.all_eq_true.mp lkW_ot _ (by decide +kernel)) (hE.2.1 (.castable nAIO nAIO) (by decide +kernel))) hc9 hv9 hcl9 ?_
  show W p l e _ s m _ below meth c H locs _ _ Q (F0 m 12 ls [.ref q9])
  refine lv_astore (lv' := [(4, .ref q9), (0, .ref (ad 0)), (1, .int i), (2, .int k), (3, .ref (ad 33))]) hx hb dL_wet_12 hl (by decide) rfl (fun ls hl => ?_)
  refine lv_iconst (v := 1) hx hb dL_wet_14 (by decide) ?_
  exact hret _ _ _ _ _ _ hw ⟨rfl, rfl⟩ dL_wet_15

set_option maxHeartbeats 4000000 in
set_option maxRecDepth 100000 in
theorem h_x2_X6_wet (l : Launch) (hlt : l.stackTraces = false) (G : va_G) (dA : Nat → ClassId) (sa : Nat → Nat) (L : List Nat) (f : Nat → va_E) (ad : Nat → Nat) (n nb : Nat) (q qk : Nat → Option Nat) (ai : sA) (le : sL) (bd : Nat → sB) (wt : Nat → Nat → UInt64) (kk : Nat → UInt64 × UInt64) (tt : sT) (pn : sP) (hr : Nat) (j : Nat) (i : Int32) (hC : Cx ad L n nb q qk) (hR : RC ad dA n nb q qk ai le bd wt kk tt pn hr f f) (hj : j < nb) (hbad : i < 0 ∨ nI n ≤ i) (o : Nat → UInt64) (ho : f (ad 33) = aD (dA 1) 1 o) : mH l yL_wet wsL_wet ({ frames := 9, cells := 1, slots := 6, locals := 139 }) G dA [.ref (ad 0), .int (nI j), .int i, .ref (ad 33)] L f sa (fun r f2 => r = 1 ∧ f2 = f) := by
  refine mH_of (cc := cL_wet) (maxL := 5) (hh := [(0, 9, 12, 13), (0, 9, 16, 33)]) (by decide) rfl (Nat.le_of_ble_eq_true rfl) ?_
  intro p e s m below meth c A ls Q hx hb hml hown hts hlocks hA ht hE hw hl hret
  have hown : s.vm.findClass RL = some m.cls := hown
  have hl : lv_has ls 5 [(0, .ref (ad 0)), (1, .int (nI j)), (2, .int i), (3, .ref (ad 33))] := hl
  refine lv_aload_n hx hb dL_wet_0 rfl (lv_at hl 3 rfl) ?_
  refine lv_iconst (v := 0) hx hb dL_wet_1 (by decide) ?_
  refine lv_aload_n hx hb dL_wet_2 rfl (lv_at hl 0 rfl) ?_
  refine lv_iload_n hx hb dL_wet_3 rfl (lv_at hl 1 rfl) ?_
  refine lv_iload_n hx hb dL_wet_4 rfl (lv_at hl 2 rfl) ?_
  refine kX_V (C := RX6) (T := TX6) (N := 8) (As := [.int (nI j), .int i]) (rest := [.int 0, .ref (ad 33)]) ⟨hx, hb, hml, hown, hts⟩ (x2_X6_wet l hlt G dA sa L f ad n nb q qk ai le bd wt kk tt pn hr f j i hC hR hj hbad) (cwV 2 hts gL_wet_X6_wet rfl rfl rfl (by decide +kernel) ⟨Nat.le_of_ble_eq_true rfl, Nat.le_of_ble_eq_true rfl⟩) hw hE.1 hA (hC.m (by decide)) hR.x rfl rfl hl.1 rfl (Nat.le_of_ble_eq_true rfl) dL_wet_5 ⟨Nat.le_of_ble_eq_true rfl, Nat.le_of_ble_eq_true rfl⟩ (fun ce q9 H locs hw hc9 hv9 hcl9 => ?_)
  refine vx_catch (name := nAIO) (E := (exOf 0).1) hown [] ⟨0, 9, 12, 13⟩ [⟨0, 9, 16, 33⟩] (ht.trans rfl) (fun z hz => absurd hz List.not_mem_nil) (by decide) (by decide) (vx_ot_at (State.WarmedH.refl s) rfl (List.all_eq_true.mp lkW_ot _ (by decide +kernel)) (hE.2.1 (.classLink RL 13 nAIO) (by decide +kernel))) (vx_ot_at (State.WarmedH.refl s) rfl (List.all_eq_true.mp lkW_ot _ (by decide +kernel)) (hE.2.1 (.castable nAIO nAIO) (by decide +kernel))) hc9 hv9 hcl9 ?_
  show W p l e _ s m _ below meth c H locs _ _ Q (F0 m 12 ls [.ref q9])
  refine lv_astore (lv' := [(4, .ref q9), (0, .ref (ad 0)), (1, .int (nI j)), (2, .int i), (3, .ref (ad 33))]) hx hb dL_wet_12 hl (by decide) rfl (fun ls hl => ?_)
  refine lv_iconst (v := 1) hx hb dL_wet_14 (by decide) ?_
  exact hret _ _ _ _ _ _ hw ⟨rfl, rfl⟩ dL_wet_15

set_option maxHeartbeats 4000000 in
set_option maxRecDepth 100000 in
theorem h_x3_X6_wet (l : Launch) (hlt : l.stackTraces = false) (G : va_G) (dA : Nat → ClassId) (sa : Nat → Nat) (L : List Nat) (f : Nat → va_E) (ad : Nat → Nat) (n nb : Nat) (q qk : Nat → Option Nat) (ai : sA) (le : sL) (bd : Nat → sB) (wt : Nat → Nat → UInt64) (kk : Nat → UInt64 × UInt64) (tt : sT) (pn : sP) (hr : Nat) (j k : Nat) (hC : Cx ad L n nb q qk) (hR : RC ad dA n nb q qk ai le bd wt kk tt pn hr f f) (hj : j < nb) (hi : k < n) (hbad : (bd j).1 = 0) (o : Nat → UInt64) (ho : f (ad 33) = aD (dA 1) 1 o) : mH l yL_wet wsL_wet ({ frames := 9, cells := 1, slots := 6, locals := 138 }) G dA [.ref (ad 0), .int (nI j), .int (nI k), .ref (ad 33)] L f sa (fun r f2 => r = 2 ∧ f2 = f) := by
  refine mH_of (cc := cL_wet) (maxL := 5) (hh := [(0, 9, 12, 13), (0, 9, 16, 33)]) (by decide) rfl (Nat.le_of_ble_eq_true rfl) ?_
  intro p e s m below meth c A ls Q hx hb hml hown hts hlocks hA ht hE hw hl hret
  have hown : s.vm.findClass RL = some m.cls := hown
  have hl : lv_has ls 5 [(0, .ref (ad 0)), (1, .int (nI j)), (2, .int (nI k)), (3, .ref (ad 33))] := hl
  refine lv_aload_n hx hb dL_wet_0 rfl (lv_at hl 3 rfl) ?_
  refine lv_iconst (v := 0) hx hb dL_wet_1 (by decide) ?_
  refine lv_aload_n hx hb dL_wet_2 rfl (lv_at hl 0 rfl) ?_
  refine lv_iload_n hx hb dL_wet_3 rfl (lv_at hl 1 rfl) ?_
  refine lv_iload_n hx hb dL_wet_4 rfl (lv_at hl 2 rfl) ?_
  refine kX_V (C := RX6) (T := TX6) (N := 8) (As := [.int (nI j), .int (nI k)]) (rest := [.int 0, .ref (ad 33)]) ⟨hx, hb, hml, hown, hts⟩ (x3_X6_wet l hlt G dA sa L f ad n nb q qk ai le bd wt kk tt pn hr f j k hC hR hj hi hbad) (cwV 2 hts gL_wet_X6_wet rfl rfl rfl (by decide +kernel) ⟨Nat.le_of_ble_eq_true rfl, Nat.le_of_ble_eq_true rfl⟩) hw hE.1 hA (hC.m (by decide)) hR.x rfl rfl hl.1 rfl (Nat.le_of_ble_eq_true rfl) dL_wet_5 ⟨Nat.le_of_ble_eq_true rfl, Nat.le_of_ble_eq_true rfl⟩ (fun ce q9 H locs hw hc9 hv9 hcl9 => ?_)
  refine vx_catch (name := nISE) (E := (exOf 2).1) hown [⟨0, 9, 12, 13⟩] ⟨0, 9, 16, 33⟩ [] (ht.trans rfl) (List.forall_mem_cons.mpr ⟨(Or.inr ⟨by decide, nAIO, vx_ot_at (State.WarmedH.refl s) rfl (List.all_eq_true.mp lkW_ot _ (by decide +kernel)) (hE.2.1 (.classLink RL 13 nAIO) (by decide +kernel)), hE.2.2.2.1⟩), fun z h => absurd h List.not_mem_nil⟩) (by decide) (by decide) (vx_ot_at (State.WarmedH.refl s) rfl (List.all_eq_true.mp lkW_ot _ (by decide +kernel)) (hE.2.1 (.classLink RL 33 nISE) (by decide +kernel))) (vx_ot_at (State.WarmedH.refl s) rfl (List.all_eq_true.mp lkW_ot _ (by decide +kernel)) (hE.2.1 (.castable nISE nISE) (by decide +kernel))) hc9 hv9 hcl9 ?_
  show W p l e _ s m _ below meth c H locs _ _ Q (F0 m 16 ls [.ref q9])
  refine lv_astore (lv' := [(4, .ref q9), (0, .ref (ad 0)), (1, .int (nI j)), (2, .int (nI k)), (3, .ref (ad 33))]) hx hb dL_wet_16 hl (by decide) rfl (fun ls hl => ?_)
  refine lv_iconst (v := 2) hx hb dL_wet_18 (by decide) ?_
  exact hret _ _ _ _ _ _ hw ⟨rfl, rfl⟩ dL_wet_19

set_option maxHeartbeats 4000000 in
set_option maxRecDepth 100000 in
theorem h_x1_X6_stress (l : Launch) (hlt : l.stackTraces = false) (G : va_G) (dA : Nat → ClassId) (sa : Nat → Nat) (L : List Nat) (f : Nat → va_E) (ad : Nat → Nat) (n nb : Nat) (q qk : Nat → Option Nat) (ai : sA) (le : sL) (bd : Nat → sB) (wt : Nat → Nat → UInt64) (kk : Nat → UInt64 × UInt64) (tt : sT) (pn : sP) (hr : Nat) (i k : Int32) (hC : Cx ad L n nb q qk) (hR : RC ad dA n nb q qk ai le bd wt kk tt pn hr f f) (hbad : i < 0 ∨ nI nb ≤ i) (o : Nat → UInt64) (ho : f (ad 33) = aD (dA 1) 1 o) : mH l yL_stress wsL_stress ({ frames := 9, cells := 1, slots := 6, locals := 139 }) G dA [.ref (ad 0), .int i, .int k, .ref (ad 33)] L f sa (fun r f2 => r = 1 ∧ f2 = f) := by
  refine mH_of (cc := cL_stress) (maxL := 5) (hh := [(0, 9, 12, 13), (0, 9, 16, 33)]) (by decide) rfl (Nat.le_of_ble_eq_true rfl) ?_
  intro p e s m below meth c A ls Q hx hb hml hown hts hlocks hA ht hE hw hl hret
  have hown : s.vm.findClass RL = some m.cls := hown
  have hl : lv_has ls 5 [(0, .ref (ad 0)), (1, .int i), (2, .int k), (3, .ref (ad 33))] := hl
  refine lv_aload_n hx hb dL_stress_0 rfl (lv_at hl 3 rfl) ?_
  refine lv_iconst (v := 0) hx hb dL_stress_1 (by decide) ?_
  refine lv_aload_n hx hb dL_stress_2 rfl (lv_at hl 0 rfl) ?_
  refine lv_iload_n hx hb dL_stress_3 rfl (lv_at hl 1 rfl) ?_
  refine lv_iload_n hx hb dL_stress_4 rfl (lv_at hl 2 rfl) ?_
  refine kX_V (C := RX6) (T := TX6) (N := 8) (As := [.int i, .int k]) (rest := [.int 0, .ref (ad 33)]) ⟨hx, hb, hml, hown, hts⟩ (x1_X6_stress l hlt G dA sa L f ad n nb q qk ai le bd wt kk tt pn hr f i k hC hR hbad) (cwV 2 hts gL_stress_X6_stress rfl rfl rfl (by decide +kernel) ⟨Nat.le_of_ble_eq_true rfl, Nat.le_of_ble_eq_true rfl⟩) hw hE.1 hA (hC.m (by decide)) hR.x rfl rfl hl.1 rfl (Nat.le_of_ble_eq_true rfl) dL_stress_5 ⟨Nat.le_of_ble_eq_true rfl, Nat.le_of_ble_eq_true rfl⟩ (fun ce q9 H locs hw hc9 hv9 hcl9 => ?_)
  refine vx_catch (name := nAIO) (E := (exOf 0).1) hown [] ⟨0, 9, 12, 13⟩ [⟨0, 9, 16, 33⟩] (ht.trans rfl) (fun z hz => absurd hz List.not_mem_nil) (by decide) (by decide) (vx_ot_at (State.WarmedH.refl s) rfl (List.all_eq_true.mp lkW_ot _ (by decide +kernel)) (hE.2.1 (.classLink RL 13 nAIO) (by decide +kernel))) (vx_ot_at (State.WarmedH.refl s) rfl (List.all_eq_true.mp lkW_ot _ (by decide +kernel)) (hE.2.1 (.castable nAIO nAIO) (by decide +kernel))) hc9 hv9 hcl9 ?_
  show W p l e _ s m _ below meth c H locs _ _ Q (F0 m 12 ls [.ref q9])
  refine lv_astore (lv' := [(4, .ref q9), (0, .ref (ad 0)), (1, .int i), (2, .int k), (3, .ref (ad 33))]) hx hb dL_stress_12 hl (by decide) rfl (fun ls hl => ?_)
  refine lv_iconst (v := 1) hx hb dL_stress_14 (by decide) ?_
  exact hret _ _ _ _ _ _ hw ⟨rfl, rfl⟩ dL_stress_15

set_option maxHeartbeats 4000000 in
set_option maxRecDepth 100000 in
theorem h_x2_X6_stress (l : Launch) (hlt : l.stackTraces = false) (G : va_G) (dA : Nat → ClassId) (sa : Nat → Nat) (L : List Nat) (f : Nat → va_E) (ad : Nat → Nat) (n nb : Nat) (q qk : Nat → Option Nat) (ai : sA) (le : sL) (bd : Nat → sB) (wt : Nat → Nat → UInt64) (kk : Nat → UInt64 × UInt64) (tt : sT) (pn : sP) (hr : Nat) (j : Nat) (i : Int32) (hC : Cx ad L n nb q qk) (hR : RC ad dA n nb q qk ai le bd wt kk tt pn hr f f) (hj : j < nb) (hbad : i < 0 ∨ nI n ≤ i) (o : Nat → UInt64) (ho : f (ad 33) = aD (dA 1) 1 o) : mH l yL_stress wsL_stress ({ frames := 9, cells := 1, slots := 6, locals := 139 }) G dA [.ref (ad 0), .int (nI j), .int i, .ref (ad 33)] L f sa (fun r f2 => r = 1 ∧ f2 = f) := by
  refine mH_of (cc := cL_stress) (maxL := 5) (hh := [(0, 9, 12, 13), (0, 9, 16, 33)]) (by decide) rfl (Nat.le_of_ble_eq_true rfl) ?_
  intro p e s m below meth c A ls Q hx hb hml hown hts hlocks hA ht hE hw hl hret
  have hown : s.vm.findClass RL = some m.cls := hown
  have hl : lv_has ls 5 [(0, .ref (ad 0)), (1, .int (nI j)), (2, .int i), (3, .ref (ad 33))] := hl
  refine lv_aload_n hx hb dL_stress_0 rfl (lv_at hl 3 rfl) ?_
  refine lv_iconst (v := 0) hx hb dL_stress_1 (by decide) ?_
  refine lv_aload_n hx hb dL_stress_2 rfl (lv_at hl 0 rfl) ?_
  refine lv_iload_n hx hb dL_stress_3 rfl (lv_at hl 1 rfl) ?_
  refine lv_iload_n hx hb dL_stress_4 rfl (lv_at hl 2 rfl) ?_
  refine kX_V (C := RX6) (T := TX6) (N := 8) (As := [.int (nI j), .int i]) (rest := [.int 0, .ref (ad 33)]) ⟨hx, hb, hml, hown, hts⟩ (x2_X6_stress l hlt G dA sa L f ad n nb q qk ai le bd wt kk tt pn hr f j i hC hR hj hbad) (cwV 2 hts gL_stress_X6_stress rfl rfl rfl (by decide +kernel) ⟨Nat.le_of_ble_eq_true rfl, Nat.le_of_ble_eq_true rfl⟩) hw hE.1 hA (hC.m (by decide)) hR.x rfl rfl hl.1 rfl (Nat.le_of_ble_eq_true rfl) dL_stress_5 ⟨Nat.le_of_ble_eq_true rfl, Nat.le_of_ble_eq_true rfl⟩ (fun ce q9 H locs hw hc9 hv9 hcl9 => ?_)
  refine vx_catch (name := nAIO) (E := (exOf 0).1) hown [] ⟨0, 9, 12, 13⟩ [⟨0, 9, 16, 33⟩] (ht.trans rfl) (fun z hz => absurd hz List.not_mem_nil) (by decide) (by decide) (vx_ot_at (State.WarmedH.refl s) rfl (List.all_eq_true.mp lkW_ot _ (by decide +kernel)) (hE.2.1 (.classLink RL 13 nAIO) (by decide +kernel))) (vx_ot_at (State.WarmedH.refl s) rfl (List.all_eq_true.mp lkW_ot _ (by decide +kernel)) (hE.2.1 (.castable nAIO nAIO) (by decide +kernel))) hc9 hv9 hcl9 ?_
  show W p l e _ s m _ below meth c H locs _ _ Q (F0 m 12 ls [.ref q9])
  refine lv_astore (lv' := [(4, .ref q9), (0, .ref (ad 0)), (1, .int (nI j)), (2, .int i), (3, .ref (ad 33))]) hx hb dL_stress_12 hl (by decide) rfl (fun ls hl => ?_)
  refine lv_iconst (v := 1) hx hb dL_stress_14 (by decide) ?_
  exact hret _ _ _ _ _ _ hw ⟨rfl, rfl⟩ dL_stress_15

set_option maxHeartbeats 4000000 in
set_option maxRecDepth 100000 in
theorem h_x3_X6_stress (l : Launch) (hlt : l.stackTraces = false) (G : va_G) (dA : Nat → ClassId) (sa : Nat → Nat) (L : List Nat) (f : Nat → va_E) (ad : Nat → Nat) (n nb : Nat) (q qk : Nat → Option Nat) (ai : sA) (le : sL) (bd : Nat → sB) (wt : Nat → Nat → UInt64) (kk : Nat → UInt64 × UInt64) (tt : sT) (pn : sP) (hr : Nat) (j k : Nat) (hC : Cx ad L n nb q qk) (hR : RC ad dA n nb q qk ai le bd wt kk tt pn hr f f) (hj : j < nb) (hi : k < n) (hbad : (bd j).1 = 0) (o : Nat → UInt64) (ho : f (ad 33) = aD (dA 1) 1 o) : mH l yL_stress wsL_stress ({ frames := 9, cells := 1, slots := 6, locals := 138 }) G dA [.ref (ad 0), .int (nI j), .int (nI k), .ref (ad 33)] L f sa (fun r f2 => r = 2 ∧ f2 = f) := by
  refine mH_of (cc := cL_stress) (maxL := 5) (hh := [(0, 9, 12, 13), (0, 9, 16, 33)]) (by decide) rfl (Nat.le_of_ble_eq_true rfl) ?_
  intro p e s m below meth c A ls Q hx hb hml hown hts hlocks hA ht hE hw hl hret
  have hown : s.vm.findClass RL = some m.cls := hown
  have hl : lv_has ls 5 [(0, .ref (ad 0)), (1, .int (nI j)), (2, .int (nI k)), (3, .ref (ad 33))] := hl
  refine lv_aload_n hx hb dL_stress_0 rfl (lv_at hl 3 rfl) ?_
  refine lv_iconst (v := 0) hx hb dL_stress_1 (by decide) ?_
  refine lv_aload_n hx hb dL_stress_2 rfl (lv_at hl 0 rfl) ?_
  refine lv_iload_n hx hb dL_stress_3 rfl (lv_at hl 1 rfl) ?_
  refine lv_iload_n hx hb dL_stress_4 rfl (lv_at hl 2 rfl) ?_
  refine kX_V (C := RX6) (T := TX6) (N := 8) (As := [.int (nI j), .int (nI k)]) (rest := [.int 0, .ref (ad 33)]) ⟨hx, hb, hml, hown, hts⟩ (x3_X6_stress l hlt G dA sa L f ad n nb q qk ai le bd wt kk tt pn hr f j k hC hR hj hi hbad) (cwV 2 hts gL_stress_X6_stress rfl rfl rfl (by decide +kernel) ⟨Nat.le_of_ble_eq_true rfl, Nat.le_of_ble_eq_true rfl⟩) hw hE.1 hA (hC.m (by decide)) hR.x rfl rfl hl.1 rfl (Nat.le_of_ble_eq_true rfl) dL_stress_5 ⟨Nat.le_of_ble_eq_true rfl, Nat.le_of_ble_eq_true rfl⟩ (fun ce q9 H locs hw hc9 hv9 hcl9 => ?_)
  refine vx_catch (name := nISE) (E := (exOf 2).1) hown [⟨0, 9, 12, 13⟩] ⟨0, 9, 16, 33⟩ [] (ht.trans rfl) (List.forall_mem_cons.mpr ⟨(Or.inr ⟨by decide, nAIO, vx_ot_at (State.WarmedH.refl s) rfl (List.all_eq_true.mp lkW_ot _ (by decide +kernel)) (hE.2.1 (.classLink RL 13 nAIO) (by decide +kernel)), hE.2.2.2.1⟩), fun z h => absurd h List.not_mem_nil⟩) (by decide) (by decide) (vx_ot_at (State.WarmedH.refl s) rfl (List.all_eq_true.mp lkW_ot _ (by decide +kernel)) (hE.2.1 (.classLink RL 33 nISE) (by decide +kernel))) (vx_ot_at (State.WarmedH.refl s) rfl (List.all_eq_true.mp lkW_ot _ (by decide +kernel)) (hE.2.1 (.castable nISE nISE) (by decide +kernel))) hc9 hv9 hcl9 ?_
  show W p l e _ s m _ below meth c H locs _ _ Q (F0 m 16 ls [.ref q9])
  refine lv_astore (lv' := [(4, .ref q9), (0, .ref (ad 0)), (1, .int (nI j)), (2, .int (nI k)), (3, .ref (ad 33))]) hx hb dL_stress_16 hl (by decide) rfl (fun ls hl => ?_)
  refine lv_iconst (v := 2) hx hb dL_stress_18 (by decide) ?_
  exact hret _ _ _ _ _ _ hw ⟨rfl, rfl⟩ dL_stress_19

set_option maxHeartbeats 4000000 in
set_option maxRecDepth 100000 in
theorem h_c_X6_told_0 (l : Launch) (hlt : l.stackTraces = false) (G : va_G) (dA : Nat → ClassId) (sa : Nat → Nat) (L : List Nat) (f : Nat → va_E) (ad : Nat → Nat) (n nb : Nat) (q qk : Nat → Option Nat) (ai : sA) (le : sL) (bd : Nat → sB) (wt : Nat → Nat → UInt64) (kk : Nat → UInt64 × UInt64) (tt : sT) (pn : sP) (hr : Nat)  (hC : Cx ad L n nb q qk) (hR : RC ad dA n nb q qk ai le bd wt kk tt pn hr f f)  (o : Nat → UInt64) (ho : f (ad 33) = aD (dA 1) 1 o) : mH l yL_told wsL_told ({ frames := 1, cells := 1, slots := 6, locals := 21 }) G dA [.ref (ad 0), .int (nI 0), .ref (ad 33)] L f sa (fun r f2 => r = 0 ∧ f2 = va_up f (ad 33) (aD (dA 1) 1 (vf_upd o 0 (toldS ai le 0)))) := by
  refine mH_of (cc := cL_told) (maxL := 4) (hh := [(0, 8, 11, 13)]) (by decide) rfl (Nat.le_of_ble_eq_true rfl) ?_
  intro p e s m below meth c A ls Q hx hb hml hown hts hlocks hA ht hE hw hl hret
  have hown : s.vm.findClass RL = some m.cls := hown
  have hl : lv_has ls 4 [(0, .ref (ad 0)), (1, .int (nI 0)), (2, .ref (ad 33))] := hl
  refine lv_aload_n hx hb dL_told_0 rfl (lv_at hl 2 rfl) ?_
  refine lv_iconst (v := 0) hx hb dL_told_1 (by decide) ?_
  refine lv_aload_n hx hb dL_told_2 rfl (lv_at hl 0 rfl) ?_
  refine lv_iload_n hx hb dL_told_3 rfl (lv_at hl 1 rfl) ?_
  refine kV_D (C := RX6) (T := TX6) (N := 8) (As := [.int (nI 0)]) (rest := [.int 0, .ref (ad 33)]) ⟨hx, hb, hml, hown, hts⟩ (c_X6_told_0 l G dA L f ad n nb q qk ai le bd wt kk tt pn hr f  hC hR ) (cwV 1 hts gL_told_X6_told rfl rfl rfl (by decide +kernel) ⟨Nat.le_of_ble_eq_true rfl, Nat.le_of_ble_eq_true rfl⟩) hw hA (hC.m (by decide)) hR.x rfl rfl hl.1 rfl (Nat.le_of_ble_eq_true rfl) dL_told_4 ⟨Nat.zero_le _, Nat.zero_le _⟩ (fun r2 f1 H locs hp hw => ?_)
  obtain ⟨e1, e2⟩ := hp
  rw [e2] at hw
  rw [e1]
  refine wst_d hx hb hw (hC.m (by decide)) ho 0 (by decide) (by decide) nI_0.symm dL_told_7 (fun H locs hw => ?_)
  obtain ⟨f3, ef3⟩ : ∃ z : Nat → va_E, z = va_up f (ad 33) (aD (dA 1) 1 (vf_upd o 0 (toldS ai le 0))) := ⟨_, rfl⟩
  have hw : ww G dA A s L f3 H locs := by rw [ef3]; exact hw
  refine lv_goto (tgt := 14) hx hb dL_told_8 (by decide) ?_
  refine lv_iconst (v := 0) hx hb dL_told_14 (by decide) ?_
  refine W.widen (k := 1) (n := 6) (Nat.zero_le _) (Nat.zero_le _) ?_
  exact hret _ _ _ _ _ _ hw ⟨rfl, ef3⟩ dL_told_15

set_option maxHeartbeats 4000000 in
set_option maxRecDepth 100000 in
theorem h_c_X6_told_1 (l : Launch) (hlt : l.stackTraces = false) (G : va_G) (dA : Nat → ClassId) (sa : Nat → Nat) (L : List Nat) (f : Nat → va_E) (ad : Nat → Nat) (n nb : Nat) (q qk : Nat → Option Nat) (ai : sA) (le : sL) (bd : Nat → sB) (wt : Nat → Nat → UInt64) (kk : Nat → UInt64 × UInt64) (tt : sT) (pn : sP) (hr : Nat)  (hC : Cx ad L n nb q qk) (hR : RC ad dA n nb q qk ai le bd wt kk tt pn hr f f)  (o : Nat → UInt64) (ho : f (ad 33) = aD (dA 1) 1 o) : mH l yL_told wsL_told ({ frames := 1, cells := 1, slots := 6, locals := 21 }) G dA [.ref (ad 0), .int (nI 1), .ref (ad 33)] L f sa (fun r f2 => r = 0 ∧ f2 = va_up f (ad 33) (aD (dA 1) 1 (vf_upd o 0 (toldS ai le 1)))) := by
  refine mH_of (cc := cL_told) (maxL := 4) (hh := [(0, 8, 11, 13)]) (by decide) rfl (Nat.le_of_ble_eq_true rfl) ?_
  intro p e s m below meth c A ls Q hx hb hml hown hts hlocks hA ht hE hw hl hret
  have hown : s.vm.findClass RL = some m.cls := hown
  have hl : lv_has ls 4 [(0, .ref (ad 0)), (1, .int (nI 1)), (2, .ref (ad 33))] := hl
  refine lv_aload_n hx hb dL_told_0 rfl (lv_at hl 2 rfl) ?_
  refine lv_iconst (v := 0) hx hb dL_told_1 (by decide) ?_
  refine lv_aload_n hx hb dL_told_2 rfl (lv_at hl 0 rfl) ?_
  refine lv_iload_n hx hb dL_told_3 rfl (lv_at hl 1 rfl) ?_
  refine kV_D (C := RX6) (T := TX6) (N := 8) (As := [.int (nI 1)]) (rest := [.int 0, .ref (ad 33)]) ⟨hx, hb, hml, hown, hts⟩ (c_X6_told_1 l G dA L f ad n nb q qk ai le bd wt kk tt pn hr f  hC hR ) (cwV 1 hts gL_told_X6_told rfl rfl rfl (by decide +kernel) ⟨Nat.le_of_ble_eq_true rfl, Nat.le_of_ble_eq_true rfl⟩) hw hA (hC.m (by decide)) hR.x rfl rfl hl.1 rfl (Nat.le_of_ble_eq_true rfl) dL_told_4 ⟨Nat.zero_le _, Nat.zero_le _⟩ (fun r2 f1 H locs hp hw => ?_)
  obtain ⟨e1, e2⟩ := hp
  rw [e2] at hw
  rw [e1]
  refine wst_d hx hb hw (hC.m (by decide)) ho 0 (by decide) (by decide) nI_0.symm dL_told_7 (fun H locs hw => ?_)
  obtain ⟨f3, ef3⟩ : ∃ z : Nat → va_E, z = va_up f (ad 33) (aD (dA 1) 1 (vf_upd o 0 (toldS ai le 1))) := ⟨_, rfl⟩
  have hw : ww G dA A s L f3 H locs := by rw [ef3]; exact hw
  refine lv_goto (tgt := 14) hx hb dL_told_8 (by decide) ?_
  refine lv_iconst (v := 0) hx hb dL_told_14 (by decide) ?_
  refine W.widen (k := 1) (n := 6) (Nat.zero_le _) (Nat.zero_le _) ?_
  exact hret _ _ _ _ _ _ hw ⟨rfl, ef3⟩ dL_told_15

set_option maxHeartbeats 4000000 in
set_option maxRecDepth 100000 in
theorem h_c_X6_told_2 (l : Launch) (hlt : l.stackTraces = false) (G : va_G) (dA : Nat → ClassId) (sa : Nat → Nat) (L : List Nat) (f : Nat → va_E) (ad : Nat → Nat) (n nb : Nat) (q qk : Nat → Option Nat) (ai : sA) (le : sL) (bd : Nat → sB) (wt : Nat → Nat → UInt64) (kk : Nat → UInt64 × UInt64) (tt : sT) (pn : sP) (hr : Nat)  (hC : Cx ad L n nb q qk) (hR : RC ad dA n nb q qk ai le bd wt kk tt pn hr f f)  (o : Nat → UInt64) (ho : f (ad 33) = aD (dA 1) 1 o) : mH l yL_told wsL_told ({ frames := 1, cells := 1, slots := 6, locals := 21 }) G dA [.ref (ad 0), .int (nI 2), .ref (ad 33)] L f sa (fun r f2 => r = 0 ∧ f2 = va_up f (ad 33) (aD (dA 1) 1 (vf_upd o 0 (toldS ai le 2)))) := by
  refine mH_of (cc := cL_told) (maxL := 4) (hh := [(0, 8, 11, 13)]) (by decide) rfl (Nat.le_of_ble_eq_true rfl) ?_
  intro p e s m below meth c A ls Q hx hb hml hown hts hlocks hA ht hE hw hl hret
  have hown : s.vm.findClass RL = some m.cls := hown
  have hl : lv_has ls 4 [(0, .ref (ad 0)), (1, .int (nI 2)), (2, .ref (ad 33))] := hl
  refine lv_aload_n hx hb dL_told_0 rfl (lv_at hl 2 rfl) ?_
  refine lv_iconst (v := 0) hx hb dL_told_1 (by decide) ?_
  refine lv_aload_n hx hb dL_told_2 rfl (lv_at hl 0 rfl) ?_
  refine lv_iload_n hx hb dL_told_3 rfl (lv_at hl 1 rfl) ?_
  refine kV_D (C := RX6) (T := TX6) (N := 8) (As := [.int (nI 2)]) (rest := [.int 0, .ref (ad 33)]) ⟨hx, hb, hml, hown, hts⟩ (c_X6_told_2 l G dA L f ad n nb q qk ai le bd wt kk tt pn hr f  hC hR ) (cwV 1 hts gL_told_X6_told rfl rfl rfl (by decide +kernel) ⟨Nat.le_of_ble_eq_true rfl, Nat.le_of_ble_eq_true rfl⟩) hw hA (hC.m (by decide)) hR.x rfl rfl hl.1 rfl (Nat.le_of_ble_eq_true rfl) dL_told_4 ⟨Nat.zero_le _, Nat.zero_le _⟩ (fun r2 f1 H locs hp hw => ?_)
  obtain ⟨e1, e2⟩ := hp
  rw [e2] at hw
  rw [e1]
  refine wst_d hx hb hw (hC.m (by decide)) ho 0 (by decide) (by decide) nI_0.symm dL_told_7 (fun H locs hw => ?_)
  obtain ⟨f3, ef3⟩ : ∃ z : Nat → va_E, z = va_up f (ad 33) (aD (dA 1) 1 (vf_upd o 0 (toldS ai le 2))) := ⟨_, rfl⟩
  have hw : ww G dA A s L f3 H locs := by rw [ef3]; exact hw
  refine lv_goto (tgt := 14) hx hb dL_told_8 (by decide) ?_
  refine lv_iconst (v := 0) hx hb dL_told_14 (by decide) ?_
  refine W.widen (k := 1) (n := 6) (Nat.zero_le _) (Nat.zero_le _) ?_
  exact hret _ _ _ _ _ _ hw ⟨rfl, ef3⟩ dL_told_15

set_option maxHeartbeats 4000000 in
set_option maxRecDepth 100000 in
theorem h_c_X6_told_3 (l : Launch) (hlt : l.stackTraces = false) (G : va_G) (dA : Nat → ClassId) (sa : Nat → Nat) (L : List Nat) (f : Nat → va_E) (ad : Nat → Nat) (n nb : Nat) (q qk : Nat → Option Nat) (ai : sA) (le : sL) (bd : Nat → sB) (wt : Nat → Nat → UInt64) (kk : Nat → UInt64 × UInt64) (tt : sT) (pn : sP) (hr : Nat)  (hC : Cx ad L n nb q qk) (hR : RC ad dA n nb q qk ai le bd wt kk tt pn hr f f)  (o : Nat → UInt64) (ho : f (ad 33) = aD (dA 1) 1 o) : mH l yL_told wsL_told ({ frames := 1, cells := 1, slots := 6, locals := 21 }) G dA [.ref (ad 0), .int (nI 3), .ref (ad 33)] L f sa (fun r f2 => r = 0 ∧ f2 = va_up f (ad 33) (aD (dA 1) 1 (vf_upd o 0 (toldS ai le 3)))) := by
  refine mH_of (cc := cL_told) (maxL := 4) (hh := [(0, 8, 11, 13)]) (by decide) rfl (Nat.le_of_ble_eq_true rfl) ?_
  intro p e s m below meth c A ls Q hx hb hml hown hts hlocks hA ht hE hw hl hret
  have hown : s.vm.findClass RL = some m.cls := hown
  have hl : lv_has ls 4 [(0, .ref (ad 0)), (1, .int (nI 3)), (2, .ref (ad 33))] := hl
  refine lv_aload_n hx hb dL_told_0 rfl (lv_at hl 2 rfl) ?_
  refine lv_iconst (v := 0) hx hb dL_told_1 (by decide) ?_
  refine lv_aload_n hx hb dL_told_2 rfl (lv_at hl 0 rfl) ?_
  refine lv_iload_n hx hb dL_told_3 rfl (lv_at hl 1 rfl) ?_
  refine kV_D (C := RX6) (T := TX6) (N := 8) (As := [.int (nI 3)]) (rest := [.int 0, .ref (ad 33)]) ⟨hx, hb, hml, hown, hts⟩ (c_X6_told_3 l G dA L f ad n nb q qk ai le bd wt kk tt pn hr f  hC hR ) (cwV 1 hts gL_told_X6_told rfl rfl rfl (by decide +kernel) ⟨Nat.le_of_ble_eq_true rfl, Nat.le_of_ble_eq_true rfl⟩) hw hA (hC.m (by decide)) hR.x rfl rfl hl.1 rfl (Nat.le_of_ble_eq_true rfl) dL_told_4 ⟨Nat.zero_le _, Nat.zero_le _⟩ (fun r2 f1 H locs hp hw => ?_)
  obtain ⟨e1, e2⟩ := hp
  rw [e2] at hw
  rw [e1]
  refine wst_d hx hb hw (hC.m (by decide)) ho 0 (by decide) (by decide) nI_0.symm dL_told_7 (fun H locs hw => ?_)
  obtain ⟨f3, ef3⟩ : ∃ z : Nat → va_E, z = va_up f (ad 33) (aD (dA 1) 1 (vf_upd o 0 (toldS ai le 3))) := ⟨_, rfl⟩
  have hw : ww G dA A s L f3 H locs := by rw [ef3]; exact hw
  refine lv_goto (tgt := 14) hx hb dL_told_8 (by decide) ?_
  refine lv_iconst (v := 0) hx hb dL_told_14 (by decide) ?_
  refine W.widen (k := 1) (n := 6) (Nat.zero_le _) (Nat.zero_le _) ?_
  exact hret _ _ _ _ _ _ hw ⟨rfl, ef3⟩ dL_told_15

set_option maxHeartbeats 4000000 in
set_option maxRecDepth 100000 in
theorem h_c_X6_told_4 (l : Launch) (hlt : l.stackTraces = false) (G : va_G) (dA : Nat → ClassId) (sa : Nat → Nat) (L : List Nat) (f : Nat → va_E) (ad : Nat → Nat) (n nb : Nat) (q qk : Nat → Option Nat) (ai : sA) (le : sL) (bd : Nat → sB) (wt : Nat → Nat → UInt64) (kk : Nat → UInt64 × UInt64) (tt : sT) (pn : sP) (hr : Nat)  (hC : Cx ad L n nb q qk) (hR : RC ad dA n nb q qk ai le bd wt kk tt pn hr f f)  (o : Nat → UInt64) (ho : f (ad 33) = aD (dA 1) 1 o) : mH l yL_told wsL_told ({ frames := 1, cells := 1, slots := 6, locals := 21 }) G dA [.ref (ad 0), .int (nI 4), .ref (ad 33)] L f sa (fun r f2 => r = 0 ∧ f2 = va_up f (ad 33) (aD (dA 1) 1 (vf_upd o 0 (toldS ai le 4)))) := by
  refine mH_of (cc := cL_told) (maxL := 4) (hh := [(0, 8, 11, 13)]) (by decide) rfl (Nat.le_of_ble_eq_true rfl) ?_
  intro p e s m below meth c A ls Q hx hb hml hown hts hlocks hA ht hE hw hl hret
  have hown : s.vm.findClass RL = some m.cls := hown
  have hl : lv_has ls 4 [(0, .ref (ad 0)), (1, .int (nI 4)), (2, .ref (ad 33))] := hl
  refine lv_aload_n hx hb dL_told_0 rfl (lv_at hl 2 rfl) ?_
  refine lv_iconst (v := 0) hx hb dL_told_1 (by decide) ?_
  refine lv_aload_n hx hb dL_told_2 rfl (lv_at hl 0 rfl) ?_
  refine lv_iload_n hx hb dL_told_3 rfl (lv_at hl 1 rfl) ?_
  refine kV_D (C := RX6) (T := TX6) (N := 8) (As := [.int (nI 4)]) (rest := [.int 0, .ref (ad 33)]) ⟨hx, hb, hml, hown, hts⟩ (c_X6_told_4 l G dA L f ad n nb q qk ai le bd wt kk tt pn hr f  hC hR ) (cwV 1 hts gL_told_X6_told rfl rfl rfl (by decide +kernel) ⟨Nat.le_of_ble_eq_true rfl, Nat.le_of_ble_eq_true rfl⟩) hw hA (hC.m (by decide)) hR.x rfl rfl hl.1 rfl (Nat.le_of_ble_eq_true rfl) dL_told_4 ⟨Nat.zero_le _, Nat.zero_le _⟩ (fun r2 f1 H locs hp hw => ?_)
  obtain ⟨e1, e2⟩ := hp
  rw [e2] at hw
  rw [e1]
  refine wst_d hx hb hw (hC.m (by decide)) ho 0 (by decide) (by decide) nI_0.symm dL_told_7 (fun H locs hw => ?_)
  obtain ⟨f3, ef3⟩ : ∃ z : Nat → va_E, z = va_up f (ad 33) (aD (dA 1) 1 (vf_upd o 0 (toldS ai le 4))) := ⟨_, rfl⟩
  have hw : ww G dA A s L f3 H locs := by rw [ef3]; exact hw
  refine lv_goto (tgt := 14) hx hb dL_told_8 (by decide) ?_
  refine lv_iconst (v := 0) hx hb dL_told_14 (by decide) ?_
  refine W.widen (k := 1) (n := 6) (Nat.zero_le _) (Nat.zero_le _) ?_
  exact hret _ _ _ _ _ _ hw ⟨rfl, ef3⟩ dL_told_15

set_option maxHeartbeats 4000000 in
set_option maxRecDepth 100000 in
theorem h_c_X6_count_0 (l : Launch) (hlt : l.stackTraces = false) (G : va_G) (dA : Nat → ClassId) (sa : Nat → Nat) (L : List Nat) (f : Nat → va_E) (ad : Nat → Nat) (n nb : Nat) (q qk : Nat → Option Nat) (ai : sA) (le : sL) (bd : Nat → sB) (wt : Nat → Nat → UInt64) (kk : Nat → UInt64 × UInt64) (tt : sT) (pn : sP) (hr : Nat)  (hC : Cx ad L n nb q qk) (hR : RC ad dA n nb q qk ai le bd wt kk tt pn hr f f)  (o : Nat → Int64) (ho : f (ad 32) = aL (dA 4) 1 o) : mH l yL_count wsL_count ({ frames := 2, cells := 1, slots := 6, locals := 43 }) G dA [.ref (ad 0), .int (nI 0), .ref (ad 32)] L f sa (fun r f2 => r = 0 ∧ f2 = va_up f (ad 32) (aL (dA 4) 1 (vp_updL o 0 ((nI (cntS bd nb pn hr 0)).toInt64)))) := by
  refine mH_of (cc := cL_count) (maxL := 4) (hh := [(0, 9, 12, 13)]) (by decide) rfl (Nat.le_of_ble_eq_true rfl) ?_
  intro p e s m below meth c A ls Q hx hb hml hown hts hlocks hA ht hE hw hl hret
  have hown : s.vm.findClass RL = some m.cls := hown
  have hl : lv_has ls 4 [(0, .ref (ad 0)), (1, .int (nI 0)), (2, .ref (ad 32))] := hl
  refine lv_aload_n hx hb dL_count_0 rfl (lv_at hl 2 rfl) ?_
  refine lv_iconst (v := 0) hx hb dL_count_1 (by decide) ?_
  refine lv_aload_n hx hb dL_count_2 rfl (lv_at hl 0 rfl) ?_
  refine lv_iload_n hx hb dL_count_3 rfl (lv_at hl 1 rfl) ?_
  refine kV_I (C := RX6) (T := TX6) (N := 8) (As := [.int (nI 0)]) (rest := [.int 0, .ref (ad 32)]) ⟨hx, hb, hml, hown, hts⟩ (c_X6_count_0 l G dA L f ad n nb q qk ai le bd wt kk tt pn hr f  hC hR ) (cwV 1 hts gL_count_X6_count rfl rfl rfl (by decide +kernel) ⟨Nat.le_of_ble_eq_true rfl, Nat.le_of_ble_eq_true rfl⟩) hw hA (hC.m (by decide)) hR.x rfl rfl hl.1 rfl (Nat.le_of_ble_eq_true rfl) dL_count_4 ⟨Nat.zero_le _, Nat.zero_le _⟩ (fun r2 f1 H locs hp hw => ?_)
  obtain ⟨e1, e2⟩ := hp
  rw [e2] at hw
  rw [e1]
  refine lv_i2l (v := (nI (cntS bd nb pn hr 0)).toInt64) hx hb dL_count_7 rfl ?_
  refine wst_l hx hb hw (hC.m (by decide)) ho 0 (by decide) (by decide) nI_0.symm dL_count_8 (fun H locs hw => ?_)
  obtain ⟨f3, ef3⟩ : ∃ z : Nat → va_E, z = va_up f (ad 32) (aL (dA 4) 1 (vp_updL o 0 ((nI (cntS bd nb pn hr 0)).toInt64))) := ⟨_, rfl⟩
  have hw : ww G dA A s L f3 H locs := by rw [ef3]; exact hw
  refine lv_goto (tgt := 15) hx hb dL_count_9 (by decide) ?_
  refine lv_iconst (v := 0) hx hb dL_count_15 (by decide) ?_
  refine W.widen (k := 1) (n := 6) (Nat.zero_le _) (Nat.zero_le _) ?_
  exact hret _ _ _ _ _ _ hw ⟨rfl, ef3⟩ dL_count_16

set_option maxHeartbeats 4000000 in
set_option maxRecDepth 100000 in
theorem h_c_X6_count_1 (l : Launch) (hlt : l.stackTraces = false) (G : va_G) (dA : Nat → ClassId) (sa : Nat → Nat) (L : List Nat) (f : Nat → va_E) (ad : Nat → Nat) (n nb : Nat) (q qk : Nat → Option Nat) (ai : sA) (le : sL) (bd : Nat → sB) (wt : Nat → Nat → UInt64) (kk : Nat → UInt64 × UInt64) (tt : sT) (pn : sP) (hr : Nat)  (hC : Cx ad L n nb q qk) (hR : RC ad dA n nb q qk ai le bd wt kk tt pn hr f f)  (o : Nat → Int64) (ho : f (ad 32) = aL (dA 4) 1 o) : mH l yL_count wsL_count ({ frames := 2, cells := 1, slots := 6, locals := 43 }) G dA [.ref (ad 0), .int (nI 1), .ref (ad 32)] L f sa (fun r f2 => r = 0 ∧ f2 = va_up f (ad 32) (aL (dA 4) 1 (vp_updL o 0 ((nI (cntS bd nb pn hr 1)).toInt64)))) := by
  refine mH_of (cc := cL_count) (maxL := 4) (hh := [(0, 9, 12, 13)]) (by decide) rfl (Nat.le_of_ble_eq_true rfl) ?_
  intro p e s m below meth c A ls Q hx hb hml hown hts hlocks hA ht hE hw hl hret
  have hown : s.vm.findClass RL = some m.cls := hown
  have hl : lv_has ls 4 [(0, .ref (ad 0)), (1, .int (nI 1)), (2, .ref (ad 32))] := hl
  refine lv_aload_n hx hb dL_count_0 rfl (lv_at hl 2 rfl) ?_
  refine lv_iconst (v := 0) hx hb dL_count_1 (by decide) ?_
  refine lv_aload_n hx hb dL_count_2 rfl (lv_at hl 0 rfl) ?_
  refine lv_iload_n hx hb dL_count_3 rfl (lv_at hl 1 rfl) ?_
  refine kV_I (C := RX6) (T := TX6) (N := 8) (As := [.int (nI 1)]) (rest := [.int 0, .ref (ad 32)]) ⟨hx, hb, hml, hown, hts⟩ (c_X6_count_1 l G dA L f ad n nb q qk ai le bd wt kk tt pn hr f  hC hR ) (cwV 1 hts gL_count_X6_count rfl rfl rfl (by decide +kernel) ⟨Nat.le_of_ble_eq_true rfl, Nat.le_of_ble_eq_true rfl⟩) hw hA (hC.m (by decide)) hR.x rfl rfl hl.1 rfl (Nat.le_of_ble_eq_true rfl) dL_count_4 ⟨Nat.zero_le _, Nat.zero_le _⟩ (fun r2 f1 H locs hp hw => ?_)
  obtain ⟨e1, e2⟩ := hp
  rw [e2] at hw
  rw [e1]
  refine lv_i2l (v := (nI (cntS bd nb pn hr 1)).toInt64) hx hb dL_count_7 rfl ?_
  refine wst_l hx hb hw (hC.m (by decide)) ho 0 (by decide) (by decide) nI_0.symm dL_count_8 (fun H locs hw => ?_)
  obtain ⟨f3, ef3⟩ : ∃ z : Nat → va_E, z = va_up f (ad 32) (aL (dA 4) 1 (vp_updL o 0 ((nI (cntS bd nb pn hr 1)).toInt64))) := ⟨_, rfl⟩
  have hw : ww G dA A s L f3 H locs := by rw [ef3]; exact hw
  refine lv_goto (tgt := 15) hx hb dL_count_9 (by decide) ?_
  refine lv_iconst (v := 0) hx hb dL_count_15 (by decide) ?_
  refine W.widen (k := 1) (n := 6) (Nat.zero_le _) (Nat.zero_le _) ?_
  exact hret _ _ _ _ _ _ hw ⟨rfl, ef3⟩ dL_count_16

set_option maxHeartbeats 4000000 in
set_option maxRecDepth 100000 in
theorem h_c_X6_count_2 (l : Launch) (hlt : l.stackTraces = false) (G : va_G) (dA : Nat → ClassId) (sa : Nat → Nat) (L : List Nat) (f : Nat → va_E) (ad : Nat → Nat) (n nb : Nat) (q qk : Nat → Option Nat) (ai : sA) (le : sL) (bd : Nat → sB) (wt : Nat → Nat → UInt64) (kk : Nat → UInt64 × UInt64) (tt : sT) (pn : sP) (hr : Nat)  (hC : Cx ad L n nb q qk) (hR : RC ad dA n nb q qk ai le bd wt kk tt pn hr f f)  (o : Nat → Int64) (ho : f (ad 32) = aL (dA 4) 1 o) : mH l yL_count wsL_count ({ frames := 2, cells := 1, slots := 6, locals := 43 }) G dA [.ref (ad 0), .int (nI 2), .ref (ad 32)] L f sa (fun r f2 => r = 0 ∧ f2 = va_up f (ad 32) (aL (dA 4) 1 (vp_updL o 0 ((nI (cntS bd nb pn hr 2)).toInt64)))) := by
  refine mH_of (cc := cL_count) (maxL := 4) (hh := [(0, 9, 12, 13)]) (by decide) rfl (Nat.le_of_ble_eq_true rfl) ?_
  intro p e s m below meth c A ls Q hx hb hml hown hts hlocks hA ht hE hw hl hret
  have hown : s.vm.findClass RL = some m.cls := hown
  have hl : lv_has ls 4 [(0, .ref (ad 0)), (1, .int (nI 2)), (2, .ref (ad 32))] := hl
  refine lv_aload_n hx hb dL_count_0 rfl (lv_at hl 2 rfl) ?_
  refine lv_iconst (v := 0) hx hb dL_count_1 (by decide) ?_
  refine lv_aload_n hx hb dL_count_2 rfl (lv_at hl 0 rfl) ?_
  refine lv_iload_n hx hb dL_count_3 rfl (lv_at hl 1 rfl) ?_
  refine kV_I (C := RX6) (T := TX6) (N := 8) (As := [.int (nI 2)]) (rest := [.int 0, .ref (ad 32)]) ⟨hx, hb, hml, hown, hts⟩ (c_X6_count_2 l G dA L f ad n nb q qk ai le bd wt kk tt pn hr f  hC hR ) (cwV 1 hts gL_count_X6_count rfl rfl rfl (by decide +kernel) ⟨Nat.le_of_ble_eq_true rfl, Nat.le_of_ble_eq_true rfl⟩) hw hA (hC.m (by decide)) hR.x rfl rfl hl.1 rfl (Nat.le_of_ble_eq_true rfl) dL_count_4 ⟨Nat.zero_le _, Nat.zero_le _⟩ (fun r2 f1 H locs hp hw => ?_)
  obtain ⟨e1, e2⟩ := hp
  rw [e2] at hw
  rw [e1]
  refine lv_i2l (v := (nI (cntS bd nb pn hr 2)).toInt64) hx hb dL_count_7 rfl ?_
  refine wst_l hx hb hw (hC.m (by decide)) ho 0 (by decide) (by decide) nI_0.symm dL_count_8 (fun H locs hw => ?_)
  obtain ⟨f3, ef3⟩ : ∃ z : Nat → va_E, z = va_up f (ad 32) (aL (dA 4) 1 (vp_updL o 0 ((nI (cntS bd nb pn hr 2)).toInt64))) := ⟨_, rfl⟩
  have hw : ww G dA A s L f3 H locs := by rw [ef3]; exact hw
  refine lv_goto (tgt := 15) hx hb dL_count_9 (by decide) ?_
  refine lv_iconst (v := 0) hx hb dL_count_15 (by decide) ?_
  refine W.widen (k := 1) (n := 6) (Nat.zero_le _) (Nat.zero_le _) ?_
  exact hret _ _ _ _ _ _ hw ⟨rfl, ef3⟩ dL_count_16

set_option maxHeartbeats 4000000 in
set_option maxRecDepth 100000 in
theorem h_x1_X6_told (l : Launch) (hlt : l.stackTraces = false) (G : va_G) (dA : Nat → ClassId) (sa : Nat → Nat) (L : List Nat) (f : Nat → va_E) (ad : Nat → Nat) (n nb : Nat) (q qk : Nat → Option Nat) (ai : sA) (le : sL) (bd : Nat → sB) (wt : Nat → Nat → UInt64) (kk : Nat → UInt64 × UInt64) (tt : sT) (pn : sP) (hr : Nat) (i : Int32) (hC : Cx ad L n nb q qk) (hR : RC ad dA n nb q qk ai le bd wt kk tt pn hr f f) (hbad : i < 0 ∨ 4 < i) (o : Nat → UInt64) (ho : f (ad 33) = aD (dA 1) 1 o) : mH l yL_told wsL_told ({ frames := 8, cells := 1, slots := 6, locals := 116 }) G dA [.ref (ad 0), .int i, .ref (ad 33)] L f sa (fun r f2 => r = 1 ∧ f2 = f) := by
  refine mH_of (cc := cL_told) (maxL := 4) (hh := [(0, 8, 11, 13)]) (by decide) rfl (Nat.le_of_ble_eq_true rfl) ?_
  intro p e s m below meth c A ls Q hx hb hml hown hts hlocks hA ht hE hw hl hret
  have hown : s.vm.findClass RL = some m.cls := hown
  have hl : lv_has ls 4 [(0, .ref (ad 0)), (1, .int i), (2, .ref (ad 33))] := hl
  refine lv_aload_n hx hb dL_told_0 rfl (lv_at hl 2 rfl) ?_
  refine lv_iconst (v := 0) hx hb dL_told_1 (by decide) ?_
  refine lv_aload_n hx hb dL_told_2 rfl (lv_at hl 0 rfl) ?_
  refine lv_iload_n hx hb dL_told_3 rfl (lv_at hl 1 rfl) ?_
  refine kX_V (C := RX6) (T := TX6) (N := 8) (As := [.int i]) (rest := [.int 0, .ref (ad 33)]) ⟨hx, hb, hml, hown, hts⟩ (x1_X6_told l hlt G dA sa L f ad n nb q qk ai le bd wt kk tt pn hr f i hC hR hbad) (cwV 1 hts gL_told_X6_told rfl rfl rfl (by decide +kernel) ⟨Nat.le_of_ble_eq_true rfl, Nat.le_of_ble_eq_true rfl⟩) hw hE.1 hA (hC.m (by decide)) hR.x rfl rfl hl.1 rfl (Nat.le_of_ble_eq_true rfl) dL_told_4 ⟨Nat.le_of_ble_eq_true rfl, Nat.le_of_ble_eq_true rfl⟩ (fun ce q9 H locs hw hc9 hv9 hcl9 => ?_)
  refine vx_catch (name := nAIO) (E := (exOf 0).1) hown [] ⟨0, 8, 11, 13⟩ [] (ht.trans rfl) (fun z hz => absurd hz List.not_mem_nil) (by decide) (by decide) (vx_ot_at (State.WarmedH.refl s) rfl (List.all_eq_true.mp lkW_ot _ (by decide +kernel)) (hE.2.1 (.classLink RL 13 nAIO) (by decide +kernel))) (vx_ot_at (State.WarmedH.refl s) rfl (List.all_eq_true.mp lkW_ot _ (by decide +kernel)) (hE.2.1 (.castable nAIO nAIO) (by decide +kernel))) hc9 hv9 hcl9 ?_
  show W p l e _ s m _ below meth c H locs _ _ Q (F0 m 11 ls [.ref q9])
  refine lv_astore_n (lv' := [(3, .ref q9), (0, .ref (ad 0)), (1, .int i), (2, .ref (ad 33))]) hx hb dL_told_11 rfl hl (by decide) rfl (fun ls hl => ?_)
  refine lv_iconst (v := 1) hx hb dL_told_12 (by decide) ?_
  exact hret _ _ _ _ _ _ hw ⟨rfl, rfl⟩ dL_told_13

set_option maxHeartbeats 4000000 in
set_option maxRecDepth 100000 in
theorem h_x1_X6_count (l : Launch) (hlt : l.stackTraces = false) (G : va_G) (dA : Nat → ClassId) (sa : Nat → Nat) (L : List Nat) (f : Nat → va_E) (ad : Nat → Nat) (n nb : Nat) (q qk : Nat → Option Nat) (ai : sA) (le : sL) (bd : Nat → sB) (wt : Nat → Nat → UInt64) (kk : Nat → UInt64 × UInt64) (tt : sT) (pn : sP) (hr : Nat) (i : Int32) (hC : Cx ad L n nb q qk) (hR : RC ad dA n nb q qk ai le bd wt kk tt pn hr f f) (hbad : i < 0 ∨ 2 < i) (o : Nat → Int64) (ho : f (ad 32) = aL (dA 4) 1 o) : mH l yL_count wsL_count ({ frames := 8, cells := 1, slots := 6, locals := 116 }) G dA [.ref (ad 0), .int i, .ref (ad 32)] L f sa (fun r f2 => r = 1 ∧ f2 = f) := by
  refine mH_of (cc := cL_count) (maxL := 4) (hh := [(0, 9, 12, 13)]) (by decide) rfl (Nat.le_of_ble_eq_true rfl) ?_
  intro p e s m below meth c A ls Q hx hb hml hown hts hlocks hA ht hE hw hl hret
  have hown : s.vm.findClass RL = some m.cls := hown
  have hl : lv_has ls 4 [(0, .ref (ad 0)), (1, .int i), (2, .ref (ad 32))] := hl
  refine lv_aload_n hx hb dL_count_0 rfl (lv_at hl 2 rfl) ?_
  refine lv_iconst (v := 0) hx hb dL_count_1 (by decide) ?_
  refine lv_aload_n hx hb dL_count_2 rfl (lv_at hl 0 rfl) ?_
  refine lv_iload_n hx hb dL_count_3 rfl (lv_at hl 1 rfl) ?_
  refine kX_V (C := RX6) (T := TX6) (N := 8) (As := [.int i]) (rest := [.int 0, .ref (ad 32)]) ⟨hx, hb, hml, hown, hts⟩ (x1_X6_count l hlt G dA sa L f ad n nb q qk ai le bd wt kk tt pn hr f i hC hR hbad) (cwV 1 hts gL_count_X6_count rfl rfl rfl (by decide +kernel) ⟨Nat.le_of_ble_eq_true rfl, Nat.le_of_ble_eq_true rfl⟩) hw hE.1 hA (hC.m (by decide)) hR.x rfl rfl hl.1 rfl (Nat.le_of_ble_eq_true rfl) dL_count_4 ⟨Nat.le_of_ble_eq_true rfl, Nat.le_of_ble_eq_true rfl⟩ (fun ce q9 H locs hw hc9 hv9 hcl9 => ?_)
  refine vx_catch (name := nAIO) (E := (exOf 0).1) hown [] ⟨0, 9, 12, 13⟩ [] (ht.trans rfl) (fun z hz => absurd hz List.not_mem_nil) (by decide) (by decide) (vx_ot_at (State.WarmedH.refl s) rfl (List.all_eq_true.mp lkW_ot _ (by decide +kernel)) (hE.2.1 (.classLink RL 13 nAIO) (by decide +kernel))) (vx_ot_at (State.WarmedH.refl s) rfl (List.all_eq_true.mp lkW_ot _ (by decide +kernel)) (hE.2.1 (.castable nAIO nAIO) (by decide +kernel))) hc9 hv9 hcl9 ?_
  show W p l e _ s m _ below meth c H locs _ _ Q (F0 m 12 ls [.ref q9])
  refine lv_astore_n (lv' := [(3, .ref q9), (0, .ref (ad 0)), (1, .int i), (2, .ref (ad 32))]) hx hb dL_count_12 rfl hl (by decide) rfl (fun ls hl => ?_)
  refine lv_iconst (v := 1) hx hb dL_count_13 (by decide) ?_
  exact hret _ _ _ _ _ _ hw ⟨rfl, rfl⟩ dL_count_14
