set_option maxHeartbeats 4000000 in
set_option maxRecDepth 100000 in
theorem c_X6_boardThere (l : Launch) (G : va_G) (dA : Nat → ClassId) (L : List Nat) (f : Nat → va_E) (ad : Nat → Nat) (n nb : Nat) (q qk : Nat → Option Nat) (ai : sA) (le : sL) (bd : Nat → sB) (wt : Nat → Nat → UInt64) (kk : Nat → UInt64 × UInt64) (tt : sT) (pn : sP) (hr : Nat) (f0 : Nat → va_E) (j : Nat)  (hC : Cx ad L n nb q qk) (hR : RC ad dA n nb q qk ai le bd wt kk tt pn hr f0 f) (hj : j < nb) (hth : ¬ (bd j).1 = 0) : mR l yX6_boardThere wsX6_boardThere ({ frames := 1, cells := 0, slots := 0, locals := 21 }) G dA [.ref (ad 0), .int (nI j)] L f (ad (34 + 2 * j)) := by
  refine mR_of (cc := cX6_boardThere) (maxL := 3) (by decide) rfl (Nat.le_of_ble_eq_true rfl) ?_
  intro p e s m below meth c A ls Q hx hb hml hown hts hlocks hA hin0 hw hl hret
  have hown : s.vm.findClass RX6 = some m.cls := hown
  have hl : lv_has ls 3 [(0, .ref (ad 0)), (1, .int (nI j))] := hl
  refine lv_aload_n hx hb dX6_boardThere_0 rfl (lv_at hl 0 rfl) ?_
  refine lv_iload_n hx hb dX6_boardThere_1 rfl (lv_at hl 1 rfl) ?_
  refine kV_R (C := RX6) (T := TX6) (N := 8) (As := [.int (nI j)]) (rest := []) ⟨hx, hb, hml, hown, hts⟩ (c_X6_slotOf l G dA L f (ad 0) (ad 1) (ad 2) (ad 3) (ad 4) (ad 5) (ad 7) n hr nb j (ad (34 + 2 * j)) q (hC.m (by decide)) hR.x (hC.m (by decide)) hR.bs hC.nb31 hj (hC.2.2.2.2.1 j hj)) (cwV 1 hts gX6_boardThere_X6_slotOf rfl rfl rfl (by decide +kernel) ⟨Nat.le_of_ble_eq_true rfl, Nat.le_of_ble_eq_true rfl⟩) hw hA (hC.m (by decide)) hR.x rfl rfl hl.1 rfl (Nat.le_of_ble_eq_true rfl) dX6_boardThere_2 ⟨Nat.zero_le _, Nat.zero_le _⟩ (fun H locs hw => ?_)
  refine lv_astore_n (lv' := [(2, .ref (ad (34 + 2 * j))), (0, .ref (ad 0)), (1, .int (nI j))]) hx hb dX6_boardThere_5 rfl hl (by decide) rfl (fun ls hl => ?_)
  refine lv_aload_n hx hb dX6_boardThere_6 rfl (lv_at hl 0 rfl) ?_
  refine kS_V (As := [.ref (ad (34 + 2 * j))]) (rest := []) ⟨hx, hb, hml, hown, hts⟩ (c_X6_requireThere l G dA L f (ad (34 + 2 * j)) (ad (35 + 2 * j)) (ad (12 + (bd j).2.2.2.2.2)) (bd j).1 (bd j).2.2.1 (bd j).2.2.2.2.1 (bd j).2.1 (bd j).2.2.2.1 (hC.mb hj) (hR.brd hj) hth) (va_cwS 1 hts gX6_boardThere_X6_requireThere rfl rfl rfl (by decide +kernel) ⟨Nat.le_of_ble_eq_true rfl, Nat.le_of_ble_eq_true rfl⟩) hw hA rfl hl.1 rfl (Nat.le_of_ble_eq_true rfl) dX6_boardThere_7 ⟨Nat.zero_le _, Nat.zero_le _⟩ (fun f1 H locs hp hw => ?_)
  rw [hp] at hw
  refine lv_aload_n hx hb dX6_boardThere_10 rfl (lv_at hl 0 rfl) ?_
  exact hret _ _ _ _ hw dX6_boardThere_11

set_option maxHeartbeats 4000000 in
set_option maxRecDepth 100000 in
theorem x0_X6_boardThere (l : Launch) (hlt : l.stackTraces = false) (G : va_G) (dA : Nat → ClassId) (sa : Nat → Nat) (L : List Nat) (f : Nat → va_E) (ad : Nat → Nat) (n nb : Nat) (q qk : Nat → Option Nat) (ai : sA) (le : sL) (bd : Nat → sB) (wt : Nat → Nat → UInt64) (kk : Nat → UInt64 × UInt64) (tt : sT) (pn : sP) (hr : Nat) (f0 : Nat → va_E) (i : Int32)  (hC : Cx ad L n nb q qk) (hR : RC ad dA n nb q qk ai le bd wt kk tt pn hr f0 f) (hbad : i < 0 ∨ nI nb ≤ i)  : mX l yX6_boardThere wsX6_boardThere ({ frames := 8, cells := 1, slots := 6, locals := 116 }) G dA [.ref (ad 0), .int i] L f sa 0 := by
  refine mX_of (cc := cX6_boardThere) (maxL := 3) (by decide) rfl (Nat.le_of_ble_eq_true rfl) ?_
  intro p e s m below meth c A ls hx hb hml hown hts hlocks hA ht hE hw hl
  have hown : s.vm.findClass RX6 = some m.cls := hown
  have hl : lv_has ls 3 [(0, .ref (ad 0)), (1, .int i)] := hl
  refine lv_aload_n hx hb dX6_boardThere_0 rfl (lv_at hl 0 rfl) ?_
  refine lv_iload_n hx hb dX6_boardThere_1 rfl (lv_at hl 1 rfl) ?_
  exact kX_V (C := RX6) (T := TX6) (N := 8) (As := [.int i]) (rest := []) ⟨hx, hb, hml, hown, hts⟩ (x_X6_slotOf l hlt G dA sa L f (ad 0) (ad 1) (ad 2) (ad 3) (ad 4) (ad 5) (ad 7) n hr nb q i (hC.m (by decide)) hR.x (hC.m (by decide)) hR.bs hC.nb31 hbad) (cwV 1 hts gX6_boardThere_X6_slotOf rfl rfl rfl (by decide +kernel) ⟨Nat.le_of_ble_eq_true rfl, Nat.le_of_ble_eq_true rfl⟩) hw hE hA (hC.m (by decide)) hR.x rfl rfl hl.1 rfl (Nat.le_of_ble_eq_true rfl) dX6_boardThere_2 ⟨Nat.le_of_ble_eq_true rfl, Nat.le_of_ble_eq_true rfl⟩ (fun ce q H locs hw hc hv hcl => mX_out hw ht hlocks hc hv hcl)

set_option maxHeartbeats 4000000 in
set_option maxRecDepth 100000 in
theorem x2_X6_boardThere (l : Launch) (hlt : l.stackTraces = false) (G : va_G) (dA : Nat → ClassId) (sa : Nat → Nat) (L : List Nat) (f : Nat → va_E) (ad : Nat → Nat) (n nb : Nat) (q qk : Nat → Option Nat) (ai : sA) (le : sL) (bd : Nat → sB) (wt : Nat → Nat → UInt64) (kk : Nat → UInt64 × UInt64) (tt : sT) (pn : sP) (hr : Nat) (f0 : Nat → va_E) (j : Nat)  (hC : Cx ad L n nb q qk) (hR : RC ad dA n nb q qk ai le bd wt kk tt pn hr f0 f) (hj : j < nb) (hbad : (bd j).1 = 0)  : mX l yX6_boardThere wsX6_boardThere ({ frames := 8, cells := 1, slots := 6, locals := 115 }) G dA [.ref (ad 0), .int (nI j)] L f sa 2 := by
  refine mX_of (cc := cX6_boardThere) (maxL := 3) (by decide) rfl (Nat.le_of_ble_eq_true rfl) ?_
  intro p e s m below meth c A ls hx hb hml hown hts hlocks hA ht hE hw hl
  have hown : s.vm.findClass RX6 = some m.cls := hown
  have hl : lv_has ls 3 [(0, .ref (ad 0)), (1, .int (nI j))] := hl
  refine lv_aload_n hx hb dX6_boardThere_0 rfl (lv_at hl 0 rfl) ?_
  refine lv_iload_n hx hb dX6_boardThere_1 rfl (lv_at hl 1 rfl) ?_
  refine kV_R (C := RX6) (T := TX6) (N := 8) (As := [.int (nI j)]) (rest := []) ⟨hx, hb, hml, hown, hts⟩ (c_X6_slotOf l G dA L f (ad 0) (ad 1) (ad 2) (ad 3) (ad 4) (ad 5) (ad 7) n hr nb j (ad (34 + 2 * j)) q (hC.m (by decide)) hR.x (hC.m (by decide)) hR.bs hC.nb31 hj (hC.2.2.2.2.1 j hj)) (cwV 1 hts gX6_boardThere_X6_slotOf rfl rfl rfl (by decide +kernel) ⟨Nat.le_of_ble_eq_true rfl, Nat.le_of_ble_eq_true rfl⟩) hw hA (hC.m (by decide)) hR.x rfl rfl hl.1 rfl (Nat.le_of_ble_eq_true rfl) dX6_boardThere_2 ⟨Nat.zero_le _, Nat.zero_le _⟩ (fun H locs hw => ?_)
  refine lv_astore_n (lv' := [(2, .ref (ad (34 + 2 * j))), (0, .ref (ad 0)), (1, .int (nI j))]) hx hb dX6_boardThere_5 rfl hl (by decide) rfl (fun ls hl => ?_)
  refine lv_aload_n hx hb dX6_boardThere_6 rfl (lv_at hl 0 rfl) ?_
  exact kX_S (As := [.ref (ad (34 + 2 * j))]) (rest := []) ⟨hx, hb, hml, hown, hts⟩ (x_X6_requireThere l hlt G dA sa L f (ad (34 + 2 * j)) (ad (35 + 2 * j)) (ad (12 + (bd j).2.2.2.2.2)) (bd j).1 (bd j).2.2.1 (bd j).2.2.2.2.1 (bd j).2.1 (bd j).2.2.2.1 (hC.mb hj) (hR.brd hj) hbad) (va_cwS 1 hts gX6_boardThere_X6_requireThere rfl rfl rfl (by decide +kernel) ⟨Nat.le_of_ble_eq_true rfl, Nat.le_of_ble_eq_true rfl⟩) hw hE hA rfl hl.1 rfl (Nat.le_of_ble_eq_true rfl) dX6_boardThere_7 ⟨Nat.le_of_ble_eq_true rfl, Nat.le_of_ble_eq_true rfl⟩ (fun ce q H locs hw hc hv hcl => mX_out hw ht hlocks hc hv hcl)

set_option maxHeartbeats 4000000 in
set_option maxRecDepth 100000 in
theorem c_X6_board (l : Launch) (G : va_G) (dA : Nat → ClassId) (L : List Nat) (f : Nat → va_E) (ad : Nat → Nat) (n nb : Nat) (q qk : Nat → Option Nat) (ai : sA) (le : sL) (bd : Nat → sB) (wt : Nat → Nat → UInt64) (kk : Nat → UInt64 × UInt64) (tt : sT) (pn : sP) (hr : Nat) (f0 : Nat → va_E) (j kc : Nat) (th we : UInt64)  (hC : Cx ad L n nb q qk) (hR : RC ad dA n nb q qk ai le bd wt kk tt pn hr f0 f) (hj : j < nb) (hc : kc < 4) (h1 : inR th FP.dconst1 4645744490609377280) (h2 : inR we FP.dconst0 4613937818241073152) (hnn : vf_n64 (FP.ddiv th (FP.i2d (nI n))))  : mV l yX6_board wsX6_board ({ frames := 1, cells := 0, slots := 0, locals := 26 }) G dA [.ref (ad 0), .int (nI j), .double th, .double we, .int (nI kc)] L f (fun f2 => RC ad dA n nb q qk ai le (va_up bd j (1, FP.ddiv th (FP.i2d (nI n)), 0, (bd j).2.2.2.1, -1, kc)) (va_up wt j (fillTo we (wt j) n)) kk tt pn hr f0 f2) := by
  refine mV_of (cc := cX6_board) (maxL := 9) (by decide) rfl (Nat.le_of_ble_eq_true rfl) ?_
  intro p e s m below meth c A ls Q hx hb hml hown hts hlocks hA hin0 hw hl hret
  have hown : s.vm.findClass RX6 = some m.cls := hown
  have hl : lv_has ls 9 [(0, .ref (ad 0)), (1, .int (nI j)), (2, .double th), (4, .double we), (6, .int (nI kc))] := hl
  refine lv_aload_n hx hb dX6_board_0 rfl (lv_at hl 0 rfl) ?_
  refine lv_iload_n hx hb dX6_board_1 rfl (lv_at hl 1 rfl) ?_
  refine kV_R (C := RX6) (T := TX6) (N := 8) (As := [.int (nI j)]) (rest := []) ⟨hx, hb, hml, hown, hts⟩ (c_X6_slotOf l G dA L f (ad 0) (ad 1) (ad 2) (ad 3) (ad 4) (ad 5) (ad 7) n hr nb j (ad (34 + 2 * j)) q (hC.m (by decide)) hR.x (hC.m (by decide)) hR.bs hC.nb31 hj (hC.2.2.2.2.1 j hj)) (cwV 1 hts gX6_board_X6_slotOf rfl rfl rfl (by decide +kernel) ⟨Nat.le_of_ble_eq_true rfl, Nat.le_of_ble_eq_true rfl⟩) hw hA (hC.m (by decide)) hR.x rfl rfl hl.1 rfl (Nat.le_of_ble_eq_true rfl) dX6_board_2 ⟨Nat.zero_le _, Nat.zero_le _⟩ (fun H locs hw => ?_)
  refine lv_astore (lv' := [(7, .ref (ad (34 + 2 * j))), (0, .ref (ad 0)), (1, .int (nI j)), (2, .double th), (4, .double we), (6, .int (nI kc))]) hx hb dX6_board_5 hl (by decide) rfl (fun ls hl => ?_)
  refine lv_aload_n hx hb dX6_board_7 rfl (lv_at hl 1 rfl) ?_
  refine lv_iload hx hb dX6_board_8 (lv_at hl 5 rfl) ?_
  refine kV_R (C := RX6) (T := TX6) (N := 8) (As := [.int (nI kc)]) (rest := []) ⟨hx, hb, hml, hown, hts⟩ (c_X6_kindOf l G dA L f (ad 0) (ad 1) (ad 2) (ad 3) (ad 4) (ad 5) (ad 7) n hr kc (ad (12 + kc)) qk (hC.m (by decide)) hR.x (hC.m (by decide)) hR.ks hc (hC.2.2.2.2.2 kc hc)) (cwV 1 hts gX6_board_X6_kindOf rfl rfl rfl (by decide +kernel) ⟨Nat.le_of_ble_eq_true rfl, Nat.le_of_ble_eq_true rfl⟩) hw hA (hC.m (by decide)) hR.x rfl rfl hl.1 rfl (Nat.le_of_ble_eq_true rfl) dX6_board_10 ⟨Nat.zero_le _, Nat.zero_le _⟩ (fun H locs hw => ?_)
  refine lv_astore (lv' := [(8, .ref (ad (12 + kc))), (7, .ref (ad (34 + 2 * j))), (0, .ref (ad 0)), (1, .int (nI j)), (2, .double th), (4, .double we), (6, .int (nI kc))]) hx hb dX6_board_13 hl (by decide) rfl (fun ls hl => ?_)
  refine lv_dload_n hx hb dX6_board_15 rfl (lv_at hl 4 rfl) ?_
  refine lv_dconst1 hx hb dX6_board_16 ?_
  refine lv_ldc2d (v := 4645744490609377280) hx hb hown (hts (.constantDouble RX6 74 (4645744490609377280)) (by decide +kernel)) dX6_board_17 ?_
  refine kS_V (As := [.double th, .double FP.dconst1, .double 4645744490609377280]) (rest := []) ⟨hx, hb, hml, hown, hts⟩ (c_X6_requireWithin l G dA L f th FP.dconst1 4645744490609377280 h1) (va_cwS 3 hts gX6_board_X6_requireWithin rfl rfl rfl (by decide +kernel) ⟨Nat.le_of_ble_eq_true rfl, Nat.le_of_ble_eq_true rfl⟩) hw hA rfl hl.1 rfl (Nat.le_of_ble_eq_true rfl) dX6_board_20 ⟨Nat.zero_le _, Nat.zero_le _⟩ (fun f1 H locs hp hw => ?_)
  rw [hp] at hw
  refine lv_dload hx hb dX6_board_23 (lv_at hl 5 rfl) ?_
  refine lv_dconst0 hx hb dX6_board_25 ?_
  refine lv_ldc2d (v := 4613937818241073152) hx hb hown (hts (.constantDouble RX6 80 (4613937818241073152)) (by decide +kernel)) dX6_board_26 ?_
  refine kS_V (As := [.double we, .double FP.dconst0, .double 4613937818241073152]) (rest := []) ⟨hx, hb, hml, hown, hts⟩ (c_X6_requireWithin l G dA L f we FP.dconst0 4613937818241073152 h2) (va_cwS 3 hts gX6_board_X6_requireWithin rfl rfl rfl (by decide +kernel) ⟨Nat.le_of_ble_eq_true rfl, Nat.le_of_ble_eq_true rfl⟩) hw hA rfl hl.1 rfl (Nat.le_of_ble_eq_true rfl) dX6_board_29 ⟨Nat.zero_le _, Nat.zero_le _⟩ (fun f2 H locs hp hw => ?_)
  rw [hp] at hw
  refine lv_aload hx hb dX6_board_32 (lv_at hl 1 rfl) ?_
  refine lv_dload_n hx hb dX6_board_34 rfl (lv_at hl 4 rfl) ?_
  refine lv_dload hx hb dX6_board_35 (lv_at hl 5 rfl) ?_
  refine lv_aload hx hb dX6_board_37 (lv_at hl 0 rfl) ?_
  refine kV_V (C := RX1) (T := TX1) (N := 7) (As := [.double th, .double we, .ref (ad (12 + kc))]) (rest := []) ⟨hx, hb, hml, hown, hts⟩ (c_X1_lay l G dA L f (ad (34 + 2 * j)) (ad (35 + 2 * j)) (ad (12 + (bd j).2.2.2.2.2)) (bd j).1 (bd j).2.2.1 (bd j).2.2.2.2.1 (bd j).2.1 (bd j).2.2.2.1 n (wt j) th we (ad (12 + kc)) (hC.mb hj) (hR.brd hj) (hC.mw hj) (hR.wet hj) hC.n31 (hC.wb hj) (hC.bw hj) hnn) (cwV 3 hts gX6_board_X1_lay rfl rfl rfl (by decide +kernel) ⟨Nat.le_of_ble_eq_true rfl, Nat.le_of_ble_eq_true rfl⟩) hw hA (hC.mb hj) (hR.brd hj) rfl rfl hl.1 rfl (Nat.le_of_ble_eq_true rfl) dX6_board_39 ⟨Nat.zero_le _, Nat.zero_le _⟩ (fun f3 H locs hp hw => ?_)
  have hR5 : RC ad dA n nb q qk ai le (va_up bd j (1, FP.ddiv th (FP.i2d (nI n)), 0, (bd j).2.2.2.1, -1, kc)) (va_up wt j (fillTo we (wt j) n)) kk tt pn hr f0 f3 := by rw [hp]; exact (hR.sBrd hC hj (1, FP.ddiv th (FP.i2d (nI n)), 0, (bd j).2.2.2.1, -1, kc)).sWet hC hj (fillTo we (wt j) n)
  exact hret _ _ _ _ _ hw hR5 dX6_board_42

set_option maxHeartbeats 4000000 in
set_option maxRecDepth 100000 in
theorem x1_X6_board (l : Launch) (hlt : l.stackTraces = false) (G : va_G) (dA : Nat → ClassId) (sa : Nat → Nat) (L : List Nat) (f : Nat → va_E) (ad : Nat → Nat) (n nb : Nat) (q qk : Nat → Option Nat) (ai : sA) (le : sL) (bd : Nat → sB) (wt : Nat → Nat → UInt64) (kk : Nat → UInt64 × UInt64) (tt : sT) (pn : sP) (hr : Nat) (f0 : Nat → va_E) (i kc : Int32) (th we : UInt64)  (hC : Cx ad L n nb q qk) (hR : RC ad dA n nb q qk ai le bd wt kk tt pn hr f0 f) (hbad : i < 0 ∨ nI nb ≤ i)  : mX l yX6_board wsX6_board ({ frames := 8, cells := 1, slots := 6, locals := 116 }) G dA [.ref (ad 0), .int i, .double th, .double we, .int kc] L f sa 0 := by
  refine mX_of (cc := cX6_board) (maxL := 9) (by decide) rfl (Nat.le_of_ble_eq_true rfl) ?_
  intro p e s m below meth c A ls hx hb hml hown hts hlocks hA ht hE hw hl
  have hown : s.vm.findClass RX6 = some m.cls := hown
  have hl : lv_has ls 9 [(0, .ref (ad 0)), (1, .int i), (2, .double th), (4, .double we), (6, .int kc)] := hl
  refine lv_aload_n hx hb dX6_board_0 rfl (lv_at hl 0 rfl) ?_
  refine lv_iload_n hx hb dX6_board_1 rfl (lv_at hl 1 rfl) ?_
  exact kX_V (C := RX6) (T := TX6) (N := 8) (As := [.int i]) (rest := []) ⟨hx, hb, hml, hown, hts⟩ (x_X6_slotOf l hlt G dA sa L f (ad 0) (ad 1) (ad 2) (ad 3) (ad 4) (ad 5) (ad 7) n hr nb q i (hC.m (by decide)) hR.x (hC.m (by decide)) hR.bs hC.nb31 hbad) (cwV 1 hts gX6_board_X6_slotOf rfl rfl rfl (by decide +kernel) ⟨Nat.le_of_ble_eq_true rfl, Nat.le_of_ble_eq_true rfl⟩) hw hE hA (hC.m (by decide)) hR.x rfl rfl hl.1 rfl (Nat.le_of_ble_eq_true rfl) dX6_board_2 ⟨Nat.le_of_ble_eq_true rfl, Nat.le_of_ble_eq_true rfl⟩ (fun ce q H locs hw hc hv hcl => mX_out hw ht hlocks hc hv hcl)

set_option maxHeartbeats 4000000 in
set_option maxRecDepth 100000 in
theorem x2_X6_board (l : Launch) (hlt : l.stackTraces = false) (G : va_G) (dA : Nat → ClassId) (sa : Nat → Nat) (L : List Nat) (f : Nat → va_E) (ad : Nat → Nat) (n nb : Nat) (q qk : Nat → Option Nat) (ai : sA) (le : sL) (bd : Nat → sB) (wt : Nat → Nat → UInt64) (kk : Nat → UInt64 × UInt64) (tt : sT) (pn : sP) (hr : Nat) (f0 : Nat → va_E) (j : Nat) (i : Int32) (th we : UInt64)  (hC : Cx ad L n nb q qk) (hR : RC ad dA n nb q qk ai le bd wt kk tt pn hr f0 f) (hj : j < nb) (hbad : i < 0 ∨ nI 4 ≤ i)  : mX l yX6_board wsX6_board ({ frames := 8, cells := 1, slots := 6, locals := 116 }) G dA [.ref (ad 0), .int (nI j), .double th, .double we, .int i] L f sa 0 := by
  refine mX_of (cc := cX6_board) (maxL := 9) (by decide) rfl (Nat.le_of_ble_eq_true rfl) ?_
  intro p e s m below meth c A ls hx hb hml hown hts hlocks hA ht hE hw hl
  have hown : s.vm.findClass RX6 = some m.cls := hown
  have hl : lv_has ls 9 [(0, .ref (ad 0)), (1, .int (nI j)), (2, .double th), (4, .double we), (6, .int i)] := hl
  refine lv_aload_n hx hb dX6_board_0 rfl (lv_at hl 0 rfl) ?_
  refine lv_iload_n hx hb dX6_board_1 rfl (lv_at hl 1 rfl) ?_
  refine kV_R (C := RX6) (T := TX6) (N := 8) (As := [.int (nI j)]) (rest := []) ⟨hx, hb, hml, hown, hts⟩ (c_X6_slotOf l G dA L f (ad 0) (ad 1) (ad 2) (ad 3) (ad 4) (ad 5) (ad 7) n hr nb j (ad (34 + 2 * j)) q (hC.m (by decide)) hR.x (hC.m (by decide)) hR.bs hC.nb31 hj (hC.2.2.2.2.1 j hj)) (cwV 1 hts gX6_board_X6_slotOf rfl rfl rfl (by decide +kernel) ⟨Nat.le_of_ble_eq_true rfl, Nat.le_of_ble_eq_true rfl⟩) hw hA (hC.m (by decide)) hR.x rfl rfl hl.1 rfl (Nat.le_of_ble_eq_true rfl) dX6_board_2 ⟨Nat.zero_le _, Nat.zero_le _⟩ (fun H locs hw => ?_)
  refine lv_astore (lv' := [(7, .ref (ad (34 + 2 * j))), (0, .ref (ad 0)), (1, .int (nI j)), (2, .double th), (4, .double we), (6, .int i)]) hx hb dX6_board_5 hl (by decide) rfl (fun ls hl => ?_)
  refine lv_aload_n hx hb dX6_board_7 rfl (lv_at hl 1 rfl) ?_
  refine lv_iload hx hb dX6_board_8 (lv_at hl 5 rfl) ?_
  exact kX_V (C := RX6) (T := TX6) (N := 8) (As := [.int i]) (rest := []) ⟨hx, hb, hml, hown, hts⟩ (x_X6_kindOf l hlt G dA sa L f (ad 0) (ad 1) (ad 2) (ad 3) (ad 4) (ad 5) (ad 7) n hr qk i (hC.m (by decide)) hR.x (hC.m (by decide)) hR.ks hbad) (cwV 1 hts gX6_board_X6_kindOf rfl rfl rfl (by decide +kernel) ⟨Nat.le_of_ble_eq_true rfl, Nat.le_of_ble_eq_true rfl⟩) hw hE hA (hC.m (by decide)) hR.x rfl rfl hl.1 rfl (Nat.le_of_ble_eq_true rfl) dX6_board_10 ⟨Nat.le_of_ble_eq_true rfl, Nat.le_of_ble_eq_true rfl⟩ (fun ce q H locs hw hc hv hcl => mX_out hw ht hlocks hc hv hcl)

set_option maxHeartbeats 4000000 in
set_option maxRecDepth 100000 in
theorem x3_X6_board (l : Launch) (hlt : l.stackTraces = false) (G : va_G) (dA : Nat → ClassId) (sa : Nat → Nat) (L : List Nat) (f : Nat → va_E) (ad : Nat → Nat) (n nb : Nat) (q qk : Nat → Option Nat) (ai : sA) (le : sL) (bd : Nat → sB) (wt : Nat → Nat → UInt64) (kk : Nat → UInt64 × UInt64) (tt : sT) (pn : sP) (hr : Nat) (f0 : Nat → va_E) (j kc : Nat) (th we : UInt64)  (hC : Cx ad L n nb q qk) (hR : RC ad dA n nb q qk ai le bd wt kk tt pn hr f0 f) (hj : j < nb) (hc : kc < 4) (hbad : ¬ inR th FP.dconst1 4645744490609377280)  : mX l yX6_board wsX6_board ({ frames := 8, cells := 1, slots := 6, locals := 120 }) G dA [.ref (ad 0), .int (nI j), .double th, .double we, .int (nI kc)] L f sa 1 := by
  refine mX_of (cc := cX6_board) (maxL := 9) (by decide) rfl (Nat.le_of_ble_eq_true rfl) ?_
  intro p e s m below meth c A ls hx hb hml hown hts hlocks hA ht hE hw hl
  have hown : s.vm.findClass RX6 = some m.cls := hown
  have hl : lv_has ls 9 [(0, .ref (ad 0)), (1, .int (nI j)), (2, .double th), (4, .double we), (6, .int (nI kc))] := hl
  refine lv_aload_n hx hb dX6_board_0 rfl (lv_at hl 0 rfl) ?_
  refine lv_iload_n hx hb dX6_board_1 rfl (lv_at hl 1 rfl) ?_
  refine kV_R (C := RX6) (T := TX6) (N := 8) (As := [.int (nI j)]) (rest := []) ⟨hx, hb, hml, hown, hts⟩ (c_X6_slotOf l G dA L f (ad 0) (ad 1) (ad 2) (ad 3) (ad 4) (ad 5) (ad 7) n hr nb j (ad (34 + 2 * j)) q (hC.m (by decide)) hR.x (hC.m (by decide)) hR.bs hC.nb31 hj (hC.2.2.2.2.1 j hj)) (cwV 1 hts gX6_board_X6_slotOf rfl rfl rfl (by decide +kernel) ⟨Nat.le_of_ble_eq_true rfl, Nat.le_of_ble_eq_true rfl⟩) hw hA (hC.m (by decide)) hR.x rfl rfl hl.1 rfl (Nat.le_of_ble_eq_true rfl) dX6_board_2 ⟨Nat.zero_le _, Nat.zero_le _⟩ (fun H locs hw => ?_)
  refine lv_astore (lv' := [(7, .ref (ad (34 + 2 * j))), (0, .ref (ad 0)), (1, .int (nI j)), (2, .double th), (4, .double we), (6, .int (nI kc))]) hx hb dX6_board_5 hl (by decide) rfl (fun ls hl => ?_)
  refine lv_aload_n hx hb dX6_board_7 rfl (lv_at hl 1 rfl) ?_
  refine lv_iload hx hb dX6_board_8 (lv_at hl 5 rfl) ?_
  refine kV_R (C := RX6) (T := TX6) (N := 8) (As := [.int (nI kc)]) (rest := []) ⟨hx, hb, hml, hown, hts⟩ (c_X6_kindOf l G dA L f (ad 0) (ad 1) (ad 2) (ad 3) (ad 4) (ad 5) (ad 7) n hr kc (ad (12 + kc)) qk (hC.m (by decide)) hR.x (hC.m (by decide)) hR.ks hc (hC.2.2.2.2.2 kc hc)) (cwV 1 hts gX6_board_X6_kindOf rfl rfl rfl (by decide +kernel) ⟨Nat.le_of_ble_eq_true rfl, Nat.le_of_ble_eq_true rfl⟩) hw hA (hC.m (by decide)) hR.x rfl rfl hl.1 rfl (Nat.le_of_ble_eq_true rfl) dX6_board_10 ⟨Nat.zero_le _, Nat.zero_le _⟩ (fun H locs hw => ?_)
  refine lv_astore (lv' := [(8, .ref (ad (12 + kc))), (7, .ref (ad (34 + 2 * j))), (0, .ref (ad 0)), (1, .int (nI j)), (2, .double th), (4, .double we), (6, .int (nI kc))]) hx hb dX6_board_13 hl (by decide) rfl (fun ls hl => ?_)
  refine lv_dload_n hx hb dX6_board_15 rfl (lv_at hl 4 rfl) ?_
  refine lv_dconst1 hx hb dX6_board_16 ?_
  refine lv_ldc2d (v := 4645744490609377280) hx hb hown (hts (.constantDouble RX6 74 (4645744490609377280)) (by decide +kernel)) dX6_board_17 ?_
  exact kX_S (As := [.double th, .double FP.dconst1, .double 4645744490609377280]) (rest := []) ⟨hx, hb, hml, hown, hts⟩ (x_X6_requireWithin l hlt G dA sa L f th FP.dconst1 4645744490609377280 hbad) (va_cwS 3 hts gX6_board_X6_requireWithin rfl rfl rfl (by decide +kernel) ⟨Nat.le_of_ble_eq_true rfl, Nat.le_of_ble_eq_true rfl⟩) hw hE hA rfl hl.1 rfl (Nat.le_of_ble_eq_true rfl) dX6_board_20 ⟨Nat.le_of_ble_eq_true rfl, Nat.le_of_ble_eq_true rfl⟩ (fun ce q H locs hw hc hv hcl => mX_out hw ht hlocks hc hv hcl)

set_option maxHeartbeats 4000000 in
set_option maxRecDepth 100000 in
theorem x4_X6_board (l : Launch) (hlt : l.stackTraces = false) (G : va_G) (dA : Nat → ClassId) (sa : Nat → Nat) (L : List Nat) (f : Nat → va_E) (ad : Nat → Nat) (n nb : Nat) (q qk : Nat → Option Nat) (ai : sA) (le : sL) (bd : Nat → sB) (wt : Nat → Nat → UInt64) (kk : Nat → UInt64 × UInt64) (tt : sT) (pn : sP) (hr : Nat) (f0 : Nat → va_E) (j kc : Nat) (th we : UInt64)  (hC : Cx ad L n nb q qk) (hR : RC ad dA n nb q qk ai le bd wt kk tt pn hr f0 f) (hj : j < nb) (hc : kc < 4) (h1 : inR th FP.dconst1 4645744490609377280) (hbad : ¬ inR we FP.dconst0 4613937818241073152)  : mX l yX6_board wsX6_board ({ frames := 8, cells := 1, slots := 6, locals := 120 }) G dA [.ref (ad 0), .int (nI j), .double th, .double we, .int (nI kc)] L f sa 1 := by
  refine mX_of (cc := cX6_board) (maxL := 9) (by decide) rfl (Nat.le_of_ble_eq_true rfl) ?_
  intro p e s m below meth c A ls hx hb hml hown hts hlocks hA ht hE hw hl
  have hown : s.vm.findClass RX6 = some m.cls := hown
  have hl : lv_has ls 9 [(0, .ref (ad 0)), (1, .int (nI j)), (2, .double th), (4, .double we), (6, .int (nI kc))] := hl
  refine lv_aload_n hx hb dX6_board_0 rfl (lv_at hl 0 rfl) ?_
  refine lv_iload_n hx hb dX6_board_1 rfl (lv_at hl 1 rfl) ?_
  refine kV_R (C := RX6) (T := TX6) (N := 8) (As := [.int (nI j)]) (rest := []) ⟨hx, hb, hml, hown, hts⟩ (c_X6_slotOf l G dA L f (ad 0) (ad 1) (ad 2) (ad 3) (ad 4) (ad 5) (ad 7) n hr nb j (ad (34 + 2 * j)) q (hC.m (by decide)) hR.x (hC.m (by decide)) hR.bs hC.nb31 hj (hC.2.2.2.2.1 j hj)) (cwV 1 hts gX6_board_X6_slotOf rfl rfl rfl (by decide +kernel) ⟨Nat.le_of_ble_eq_true rfl, Nat.le_of_ble_eq_true rfl⟩) hw hA (hC.m (by decide)) hR.x rfl rfl hl.1 rfl (Nat.le_of_ble_eq_true rfl) dX6_board_2 ⟨Nat.zero_le _, Nat.zero_le _⟩ (fun H locs hw => ?_)
  refine lv_astore (lv' := [(7, .ref (ad (34 + 2 * j))), (0, .ref (ad 0)), (1, .int (nI j)), (2, .double th), (4, .double we), (6, .int (nI kc))]) hx hb dX6_board_5 hl (by decide) rfl (fun ls hl => ?_)
  refine lv_aload_n hx hb dX6_board_7 rfl (lv_at hl 1 rfl) ?_
  refine lv_iload hx hb dX6_board_8 (lv_at hl 5 rfl) ?_
  refine kV_R (C := RX6) (T := TX6) (N := 8) (As := [.int (nI kc)]) (rest := []) ⟨hx, hb, hml, hown, hts⟩ (c_X6_kindOf l G dA L f (ad 0) (ad 1) (ad 2) (ad 3) (ad 4) (ad 5) (ad 7) n hr kc (ad (12 + kc)) qk (hC.m (by decide)) hR.x (hC.m (by decide)) hR.ks hc (hC.2.2.2.2.2 kc hc)) (cwV 1 hts gX6_board_X6_kindOf rfl rfl rfl (by decide +kernel) ⟨Nat.le_of_ble_eq_true rfl, Nat.le_of_ble_eq_true rfl⟩) hw hA (hC.m (by decide)) hR.x rfl rfl hl.1 rfl (Nat.le_of_ble_eq_true rfl) dX6_board_10 ⟨Nat.zero_le _, Nat.zero_le _⟩ (fun H locs hw => ?_)
  refine lv_astore (lv' := [(8, .ref (ad (12 + kc))), (7, .ref (ad (34 + 2 * j))), (0, .ref (ad 0)), (1, .int (nI j)), (2, .double th), (4, .double we), (6, .int (nI kc))]) hx hb dX6_board_13 hl (by decide) rfl (fun ls hl => ?_)
  refine lv_dload_n hx hb dX6_board_15 rfl (lv_at hl 4 rfl) ?_
  refine lv_dconst1 hx hb dX6_board_16 ?_
  refine lv_ldc2d (v := 4645744490609377280) hx hb hown (hts (.constantDouble RX6 74 (4645744490609377280)) (by decide +kernel)) dX6_board_17 ?_
  refine kS_V (As := [.double th, .double FP.dconst1, .double 4645744490609377280]) (rest := []) ⟨hx, hb, hml, hown, hts⟩ (c_X6_requireWithin l G dA L f th FP.dconst1 4645744490609377280 h1) (va_cwS 3 hts gX6_board_X6_requireWithin rfl rfl rfl (by decide +kernel) ⟨Nat.le_of_ble_eq_true rfl, Nat.le_of_ble_eq_true rfl⟩) hw hA rfl hl.1 rfl (Nat.le_of_ble_eq_true rfl) dX6_board_20 ⟨Nat.zero_le _, Nat.zero_le _⟩ (fun f1 H locs hp hw => ?_)
  rw [hp] at hw
  refine lv_dload hx hb dX6_board_23 (lv_at hl 5 rfl) ?_
  refine lv_dconst0 hx hb dX6_board_25 ?_
  refine lv_ldc2d (v := 4613937818241073152) hx hb hown (hts (.constantDouble RX6 80 (4613937818241073152)) (by decide +kernel)) dX6_board_26 ?_
  exact kX_S (As := [.double we, .double FP.dconst0, .double 4613937818241073152]) (rest := []) ⟨hx, hb, hml, hown, hts⟩ (x_X6_requireWithin l hlt G dA sa L f we FP.dconst0 4613937818241073152 hbad) (va_cwS 3 hts gX6_board_X6_requireWithin rfl rfl rfl (by decide +kernel) ⟨Nat.le_of_ble_eq_true rfl, Nat.le_of_ble_eq_true rfl⟩) hw hE hA rfl hl.1 rfl (Nat.le_of_ble_eq_true rfl) dX6_board_29 ⟨Nat.le_of_ble_eq_true rfl, Nat.le_of_ble_eq_true rfl⟩ (fun ce q H locs hw hc hv hcl => mX_out hw ht hlocks hc hv hcl)

set_option maxHeartbeats 4000000 in
set_option maxRecDepth 100000 in
theorem c_X6_rate (l : Launch) (G : va_G) (dA : Nat → ClassId) (L : List Nat) (f : Nat → va_E) (ad : Nat → Nat) (n nb : Nat) (q qk : Nat → Option Nat) (ai : sA) (le : sL) (bd : Nat → sB) (wt : Nat → Nat → UInt64) (kk : Nat → UInt64 × UInt64) (tt : sT) (pn : sP) (hr : Nat) (f0 : Nat → va_E) (kc : Nat) (u v : UInt64)  (hC : Cx ad L n nb q qk) (hR : RC ad dA n nb q qk ai le bd wt kk tt pn hr f0 f) (hc : kc < 4) (h1 : inR u FP.dconst0 4620693217682128896) (h2 : inR v FP.dconst0 4620693217682128896)  : mV l yX6_rate wsX6_rate ({ frames := 1, cells := 0, slots := 0, locals := 25 }) G dA [.ref (ad 0), .int (nI kc), .double u, .double v] L f (fun f2 => RC ad dA n nb q qk ai le bd wt (va_up kk kc (u, v)) tt pn hr f0 f2) := by
  refine mV_of (cc := cX6_rate) (maxL := 7) (by decide) rfl (Nat.le_of_ble_eq_true rfl) ?_
  intro p e s m below meth c A ls Q hx hb hml hown hts hlocks hA hin0 hw hl hret
  have hown : s.vm.findClass RX6 = some m.cls := hown
  have hl : lv_has ls 7 [(0, .ref (ad 0)), (1, .int (nI kc)), (2, .double u), (4, .double v)] := hl
  have hi2 : ∀ w ∈ u_ws RX2 TX2 2, w ∈ wsX6_rate := by decide +kernel
  refine lv_aload_n hx hb dX6_rate_0 rfl (lv_at hl 0 rfl) ?_
  refine lv_iload_n hx hb dX6_rate_1 rfl (lv_at hl 1 rfl) ?_
  refine kV_R (C := RX6) (T := TX6) (N := 8) (As := [.int (nI kc)]) (rest := []) ⟨hx, hb, hml, hown, hts⟩ (c_X6_kindOf l G dA L f (ad 0) (ad 1) (ad 2) (ad 3) (ad 4) (ad 5) (ad 7) n hr kc (ad (12 + kc)) qk (hC.m (by decide)) hR.x (hC.m (by decide)) hR.ks hc (hC.2.2.2.2.2 kc hc)) (cwV 1 hts gX6_rate_X6_kindOf rfl rfl rfl (by decide +kernel) ⟨Nat.le_of_ble_eq_true rfl, Nat.le_of_ble_eq_true rfl⟩) hw hA (hC.m (by decide)) hR.x rfl rfl hl.1 rfl (Nat.le_of_ble_eq_true rfl) dX6_rate_2 ⟨Nat.zero_le _, Nat.zero_le _⟩ (fun H locs hw => ?_)
  refine lv_astore (lv' := [(6, .ref (ad (12 + kc))), (0, .ref (ad 0)), (1, .int (nI kc)), (2, .double u), (4, .double v)]) hx hb dX6_rate_5 hl (by decide) rfl (fun ls hl => ?_)
  refine lv_dload_n hx hb dX6_rate_7 rfl (lv_at hl 3 rfl) ?_
  refine lv_dconst0 hx hb dX6_rate_8 ?_
  refine lv_ldc2d (v := 4620693217682128896) hx hb hown (hts (.constantDouble RX6 86 (4620693217682128896)) (by decide +kernel)) dX6_rate_9 ?_
  refine kS_V (As := [.double u, .double FP.dconst0, .double 4620693217682128896]) (rest := []) ⟨hx, hb, hml, hown, hts⟩ (c_X6_requireWithin l G dA L f u FP.dconst0 4620693217682128896 h1) (va_cwS 3 hts gX6_rate_X6_requireWithin rfl rfl rfl (by decide +kernel) ⟨Nat.le_of_ble_eq_true rfl, Nat.le_of_ble_eq_true rfl⟩) hw hA rfl hl.1 rfl (Nat.le_of_ble_eq_true rfl) dX6_rate_12 ⟨Nat.zero_le _, Nat.zero_le _⟩ (fun f1 H locs hp hw => ?_)
  rw [hp] at hw
  refine lv_dload hx hb dX6_rate_15 (lv_at hl 4 rfl) ?_
  refine lv_dconst0 hx hb dX6_rate_17 ?_
  refine lv_ldc2d (v := 4620693217682128896) hx hb hown (hts (.constantDouble RX6 86 (4620693217682128896)) (by decide +kernel)) dX6_rate_18 ?_
  refine kS_V (As := [.double v, .double FP.dconst0, .double 4620693217682128896]) (rest := []) ⟨hx, hb, hml, hown, hts⟩ (c_X6_requireWithin l G dA L f v FP.dconst0 4620693217682128896 h2) (va_cwS 3 hts gX6_rate_X6_requireWithin rfl rfl rfl (by decide +kernel) ⟨Nat.le_of_ble_eq_true rfl, Nat.le_of_ble_eq_true rfl⟩) hw hA rfl hl.1 rfl (Nat.le_of_ble_eq_true rfl) dX6_rate_21 ⟨Nat.zero_le _, Nat.zero_le _⟩ (fun f2 H locs hp hw => ?_)
  rw [hp] at hw
  refine lv_aload hx hb dX6_rate_24 (lv_at hl 0 rfl) ?_
  refine lv_dload_n hx hb dX6_rate_26 rfl (lv_at hl 3 rfl) ?_
  refine wp_ (C := RX2) (T := TX2) (N := 2) hx hb hts hi2 tyX2 tyX2_ok nmX2 hown hw (hC.mk hc) (hR.kd hc) rfl 0 (by decide) (hts (.fieldLink RX6 88 "LayerMoisture$Kind" "a" "D") (by decide +kernel)) (fun _ h9 => h9) rfl (ty := .double) (v := .double u) (by decide +kernel) rfl rfl (Nat.le_of_ble_eq_true rfl) dX6_rate_27 (fun H locs hw => ?_)
  obtain ⟨f3, ef3⟩ : ∃ z : Nat → va_E, z = va_up f (ad (12 + kc)) (.inr (3, [.double u, .double ((kk kc).2)])) := ⟨_, rfl⟩
  have hw : ww G dA A s L f3 H locs := by rw [ef3]; exact hw
  have h4 : f3 (ad (12 + kc)) = .inr (3, [.double u, .double ((kk kc).2)]) := by rw [ef3]; exact va_up_self _ _ _
  refine lv_aload hx hb dX6_rate_30 (lv_at hl 0 rfl) ?_
  refine lv_dload hx hb dX6_rate_32 (lv_at hl 4 rfl) ?_
  refine wp_ (C := RX2) (T := TX2) (N := 2) hx hb hts hi2 tyX2 tyX2_ok nmX2 hown hw (hC.mk hc) h4 rfl 1 (by decide) (hts (.fieldLink RX6 92 "LayerMoisture$Kind" "b" "D") (by decide +kernel)) (fun _ h9 => h9) rfl (ty := .double) (v := .double v) (by decide +kernel) rfl rfl (Nat.le_of_ble_eq_true rfl) dX6_rate_34 (fun H locs hw => ?_)
  obtain ⟨f5, ef5⟩ : ∃ z : Nat → va_E, z = va_up f3 (ad (12 + kc)) (.inr (3, [.double u, .double v])) := ⟨_, rfl⟩
  have hw : ww G dA A s L f5 H locs := by rw [ef5]; exact hw
  have h6 : f5 (ad (12 + kc)) = .inr (3, [.double u, .double v]) := by rw [ef5]; exact va_up_self _ _ _
  exact hret _ _ _ _ _ hw (by rw [ef5, ef3, bx_uu]; exact hR.sKd hC hc (u, v)) dX6_rate_37

set_option maxHeartbeats 4000000 in
set_option maxRecDepth 100000 in
theorem x1_X6_rate (l : Launch) (hlt : l.stackTraces = false) (G : va_G) (dA : Nat → ClassId) (sa : Nat → Nat) (L : List Nat) (f : Nat → va_E) (ad : Nat → Nat) (n nb : Nat) (q qk : Nat → Option Nat) (ai : sA) (le : sL) (bd : Nat → sB) (wt : Nat → Nat → UInt64) (kk : Nat → UInt64 × UInt64) (tt : sT) (pn : sP) (hr : Nat) (f0 : Nat → va_E) (i : Int32) (u v : UInt64)  (hC : Cx ad L n nb q qk) (hR : RC ad dA n nb q qk ai le bd wt kk tt pn hr f0 f) (hbad : i < 0 ∨ nI 4 ≤ i)  : mX l yX6_rate wsX6_rate ({ frames := 8, cells := 1, slots := 6, locals := 116 }) G dA [.ref (ad 0), .int i, .double u, .double v] L f sa 0 := by
  refine mX_of (cc := cX6_rate) (maxL := 7) (by decide) rfl (Nat.le_of_ble_eq_true rfl) ?_
  intro p e s m below meth c A ls hx hb hml hown hts hlocks hA ht hE hw hl
  have hown : s.vm.findClass RX6 = some m.cls := hown
  have hl : lv_has ls 7 [(0, .ref (ad 0)), (1, .int i), (2, .double u), (4, .double v)] := hl
  refine lv_aload_n hx hb dX6_rate_0 rfl (lv_at hl 0 rfl) ?_
  refine lv_iload_n hx hb dX6_rate_1 rfl (lv_at hl 1 rfl) ?_
  exact kX_V (C := RX6) (T := TX6) (N := 8) (As := [.int i]) (rest := []) ⟨hx, hb, hml, hown, hts⟩ (x_X6_kindOf l hlt G dA sa L f (ad 0) (ad 1) (ad 2) (ad 3) (ad 4) (ad 5) (ad 7) n hr qk i (hC.m (by decide)) hR.x (hC.m (by decide)) hR.ks hbad) (cwV 1 hts gX6_rate_X6_kindOf rfl rfl rfl (by decide +kernel) ⟨Nat.le_of_ble_eq_true rfl, Nat.le_of_ble_eq_true rfl⟩) hw hE hA (hC.m (by decide)) hR.x rfl rfl hl.1 rfl (Nat.le_of_ble_eq_true rfl) dX6_rate_2 ⟨Nat.le_of_ble_eq_true rfl, Nat.le_of_ble_eq_true rfl⟩ (fun ce q H locs hw hc hv hcl => mX_out hw ht hlocks hc hv hcl)

set_option maxHeartbeats 4000000 in
set_option maxRecDepth 100000 in
theorem x2_X6_rate (l : Launch) (hlt : l.stackTraces = false) (G : va_G) (dA : Nat → ClassId) (sa : Nat → Nat) (L : List Nat) (f : Nat → va_E) (ad : Nat → Nat) (n nb : Nat) (q qk : Nat → Option Nat) (ai : sA) (le : sL) (bd : Nat → sB) (wt : Nat → Nat → UInt64) (kk : Nat → UInt64 × UInt64) (tt : sT) (pn : sP) (hr : Nat) (f0 : Nat → va_E) (kc : Nat) (u v : UInt64)  (hC : Cx ad L n nb q qk) (hR : RC ad dA n nb q qk ai le bd wt kk tt pn hr f0 f) (hc : kc < 4) (hbad : ¬ inR u FP.dconst0 4620693217682128896)  : mX l yX6_rate wsX6_rate ({ frames := 8, cells := 1, slots := 6, locals := 120 }) G dA [.ref (ad 0), .int (nI kc), .double u, .double v] L f sa 1 := by
  refine mX_of (cc := cX6_rate) (maxL := 7) (by decide) rfl (Nat.le_of_ble_eq_true rfl) ?_
  intro p e s m below meth c A ls hx hb hml hown hts hlocks hA ht hE hw hl
  have hown : s.vm.findClass RX6 = some m.cls := hown
  have hl : lv_has ls 7 [(0, .ref (ad 0)), (1, .int (nI kc)), (2, .double u), (4, .double v)] := hl
  refine lv_aload_n hx hb dX6_rate_0 rfl (lv_at hl 0 rfl) ?_
  refine lv_iload_n hx hb dX6_rate_1 rfl (lv_at hl 1 rfl) ?_
  refine kV_R (C := RX6) (T := TX6) (N := 8) (As := [.int (nI kc)]) (rest := []) ⟨hx, hb, hml, hown, hts⟩ (c_X6_kindOf l G dA L f (ad 0) (ad 1) (ad 2) (ad 3) (ad 4) (ad 5) (ad 7) n hr kc (ad (12 + kc)) qk (hC.m (by decide)) hR.x (hC.m (by decide)) hR.ks hc (hC.2.2.2.2.2 kc hc)) (cwV 1 hts gX6_rate_X6_kindOf rfl rfl rfl (by decide +kernel) ⟨Nat.le_of_ble_eq_true rfl, Nat.le_of_ble_eq_true rfl⟩) hw hA (hC.m (by decide)) hR.x rfl rfl hl.1 rfl (Nat.le_of_ble_eq_true rfl) dX6_rate_2 ⟨Nat.zero_le _, Nat.zero_le _⟩ (fun H locs hw => ?_)
  refine lv_astore (lv' := [(6, .ref (ad (12 + kc))), (0, .ref (ad 0)), (1, .int (nI kc)), (2, .double u), (4, .double v)]) hx hb dX6_rate_5 hl (by decide) rfl (fun ls hl => ?_)
  refine lv_dload_n hx hb dX6_rate_7 rfl (lv_at hl 3 rfl) ?_
  refine lv_dconst0 hx hb dX6_rate_8 ?_
  refine lv_ldc2d (v := 4620693217682128896) hx hb hown (hts (.constantDouble RX6 86 (4620693217682128896)) (by decide +kernel)) dX6_rate_9 ?_
  exact kX_S (As := [.double u, .double FP.dconst0, .double 4620693217682128896]) (rest := []) ⟨hx, hb, hml, hown, hts⟩ (x_X6_requireWithin l hlt G dA sa L f u FP.dconst0 4620693217682128896 hbad) (va_cwS 3 hts gX6_rate_X6_requireWithin rfl rfl rfl (by decide +kernel) ⟨Nat.le_of_ble_eq_true rfl, Nat.le_of_ble_eq_true rfl⟩) hw hE hA rfl hl.1 rfl (Nat.le_of_ble_eq_true rfl) dX6_rate_12 ⟨Nat.le_of_ble_eq_true rfl, Nat.le_of_ble_eq_true rfl⟩ (fun ce q H locs hw hc hv hcl => mX_out hw ht hlocks hc hv hcl)

set_option maxHeartbeats 4000000 in
set_option maxRecDepth 100000 in
theorem x3_X6_rate (l : Launch) (hlt : l.stackTraces = false) (G : va_G) (dA : Nat → ClassId) (sa : Nat → Nat) (L : List Nat) (f : Nat → va_E) (ad : Nat → Nat) (n nb : Nat) (q qk : Nat → Option Nat) (ai : sA) (le : sL) (bd : Nat → sB) (wt : Nat → Nat → UInt64) (kk : Nat → UInt64 × UInt64) (tt : sT) (pn : sP) (hr : Nat) (f0 : Nat → va_E) (kc : Nat) (u v : UInt64)  (hC : Cx ad L n nb q qk) (hR : RC ad dA n nb q qk ai le bd wt kk tt pn hr f0 f) (hc : kc < 4) (h1 : inR u FP.dconst0 4620693217682128896) (hbad : ¬ inR v FP.dconst0 4620693217682128896)  : mX l yX6_rate wsX6_rate ({ frames := 8, cells := 1, slots := 6, locals := 120 }) G dA [.ref (ad 0), .int (nI kc), .double u, .double v] L f sa 1 := by
  refine mX_of (cc := cX6_rate) (maxL := 7) (by decide) rfl (Nat.le_of_ble_eq_true rfl) ?_
  intro p e s m below meth c A ls hx hb hml hown hts hlocks hA ht hE hw hl
  have hown : s.vm.findClass RX6 = some m.cls := hown
  have hl : lv_has ls 7 [(0, .ref (ad 0)), (1, .int (nI kc)), (2, .double u), (4, .double v)] := hl
  refine lv_aload_n hx hb dX6_rate_0 rfl (lv_at hl 0 rfl) ?_
  refine lv_iload_n hx hb dX6_rate_1 rfl (lv_at hl 1 rfl) ?_
  refine kV_R (C := RX6) (T := TX6) (N := 8) (As := [.int (nI kc)]) (rest := []) ⟨hx, hb, hml, hown, hts⟩ (c_X6_kindOf l G dA L f (ad 0) (ad 1) (ad 2) (ad 3) (ad 4) (ad 5) (ad 7) n hr kc (ad (12 + kc)) qk (hC.m (by decide)) hR.x (hC.m (by decide)) hR.ks hc (hC.2.2.2.2.2 kc hc)) (cwV 1 hts gX6_rate_X6_kindOf rfl rfl rfl (by decide +kernel) ⟨Nat.le_of_ble_eq_true rfl, Nat.le_of_ble_eq_true rfl⟩) hw hA (hC.m (by decide)) hR.x rfl rfl hl.1 rfl (Nat.le_of_ble_eq_true rfl) dX6_rate_2 ⟨Nat.zero_le _, Nat.zero_le _⟩ (fun H locs hw => ?_)
  refine lv_astore (lv' := [(6, .ref (ad (12 + kc))), (0, .ref (ad 0)), (1, .int (nI kc)), (2, .double u), (4, .double v)]) hx hb dX6_rate_5 hl (by decide) rfl (fun ls hl => ?_)
  refine lv_dload_n hx hb dX6_rate_7 rfl (lv_at hl 3 rfl) ?_
  refine lv_dconst0 hx hb dX6_rate_8 ?_
  refine lv_ldc2d (v := 4620693217682128896) hx hb hown (hts (.constantDouble RX6 86 (4620693217682128896)) (by decide +kernel)) dX6_rate_9 ?_
  refine kS_V (As := [.double u, .double FP.dconst0, .double 4620693217682128896]) (rest := []) ⟨hx, hb, hml, hown, hts⟩ (c_X6_requireWithin l G dA L f u FP.dconst0 4620693217682128896 h1) (va_cwS 3 hts gX6_rate_X6_requireWithin rfl rfl rfl (by decide +kernel) ⟨Nat.le_of_ble_eq_true rfl, Nat.le_of_ble_eq_true rfl⟩) hw hA rfl hl.1 rfl (Nat.le_of_ble_eq_true rfl) dX6_rate_12 ⟨Nat.zero_le _, Nat.zero_le _⟩ (fun f1 H locs hp hw => ?_)
  rw [hp] at hw
  refine lv_dload hx hb dX6_rate_15 (lv_at hl 4 rfl) ?_
  refine lv_dconst0 hx hb dX6_rate_17 ?_
  refine lv_ldc2d (v := 4620693217682128896) hx hb hown (hts (.constantDouble RX6 86 (4620693217682128896)) (by decide +kernel)) dX6_rate_18 ?_
  exact kX_S (As := [.double v, .double FP.dconst0, .double 4620693217682128896]) (rest := []) ⟨hx, hb, hml, hown, hts⟩ (x_X6_requireWithin l hlt G dA sa L f v FP.dconst0 4620693217682128896 hbad) (va_cwS 3 hts gX6_rate_X6_requireWithin rfl rfl rfl (by decide +kernel) ⟨Nat.le_of_ble_eq_true rfl, Nat.le_of_ble_eq_true rfl⟩) hw hE hA rfl hl.1 rfl (Nat.le_of_ble_eq_true rfl) dX6_rate_21 ⟨Nat.le_of_ble_eq_true rfl, Nat.le_of_ble_eq_true rfl⟩ (fun ce q H locs hw hc hv hcl => mX_out hw ht hlocks hc hv hcl)

set_option maxHeartbeats 4000000 in
set_option maxRecDepth 100000 in
theorem c_X6_air (l : Launch) (G : va_G) (dA : Nat → ClassId) (L : List Nat) (f : Nat → va_E) (ad : Nat → Nat) (n nb : Nat) (q qk : Nat → Option Nat) (ai : sA) (le : sL) (bd : Nat → sB) (wt : Nat → Nat → UInt64) (kk : Nat → UInt64 × UInt64) (tt : sT) (pn : sP) (hr : Nat) (f0 : Nat → va_E) (u v zs : UInt64)  (hC : Cx ad L n nb q qk) (hR : RC ad dA n nb q qk ai le bd wt kk tt pn hr f0 f) (h1 : inR u 4643000109586448384 4645744490609377280) (h2 : inR v FP.dconst0 FP.dconst1) (h3 : inR zs FP.dconst0 4625196817309499392)  : mV l yX6_air wsX6_air ({ frames := 1, cells := 0, slots := 0, locals := 25 }) G dA [.ref (ad 0), .double u, .double v, .double zs] L f (fun f2 => RC ad dA n nb q qk ((u, v, zs, ai.2.2.2)) le bd wt kk tt pn hr f0 f2) := by
  refine mV_of (cc := cX6_air) (maxL := 7) (by decide) rfl (Nat.le_of_ble_eq_true rfl) ?_
  intro p e s m below meth c A ls Q hx hb hml hown hts hlocks hA hin0 hw hl hret
  have hown : s.vm.findClass RX6 = some m.cls := hown
  have hl : lv_has ls 7 [(0, .ref (ad 0)), (1, .double u), (3, .double v), (5, .double zs)] := hl
  have hi0 : ∀ w ∈ u_ws RX0 TX0 4, w ∈ wsX6_air := by decide +kernel
  have hi6 : ∀ w ∈ u_ws RX6 TX6 8, w ∈ wsX6_air := by decide +kernel
  refine lv_dload_n hx hb dX6_air_0 rfl (lv_at hl 1 rfl) ?_
  refine lv_ldc2d (v := 4643000109586448384) hx hb hown (hts (.constantDouble RX6 95 (4643000109586448384)) (by decide +kernel)) dX6_air_1 ?_
  refine lv_ldc2d (v := 4645744490609377280) hx hb hown (hts (.constantDouble RX6 74 (4645744490609377280)) (by decide +kernel)) dX6_air_4 ?_
  refine kS_V (As := [.double u, .double 4643000109586448384, .double 4645744490609377280]) (rest := []) ⟨hx, hb, hml, hown, hts⟩ (c_X6_requireWithin l G dA L f u 4643000109586448384 4645744490609377280 h1) (va_cwS 3 hts gX6_air_X6_requireWithin rfl rfl rfl (by decide +kernel) ⟨Nat.le_of_ble_eq_true rfl, Nat.le_of_ble_eq_true rfl⟩) hw hA rfl hl.1 rfl (Nat.le_of_ble_eq_true rfl) dX6_air_7 ⟨Nat.zero_le _, Nat.zero_le _⟩ (fun f1 H locs hp hw => ?_)
  rw [hp] at hw
  refine lv_dload_n hx hb dX6_air_10 rfl (lv_at hl 2 rfl) ?_
  refine lv_dconst0 hx hb dX6_air_11 ?_
  refine lv_dconst1 hx hb dX6_air_12 ?_
  refine kS_V (As := [.double v, .double FP.dconst0, .double FP.dconst1]) (rest := []) ⟨hx, hb, hml, hown, hts⟩ (c_X6_requireWithin l G dA L f v FP.dconst0 FP.dconst1 h2) (va_cwS 3 hts gX6_air_X6_requireWithin rfl rfl rfl (by decide +kernel) ⟨Nat.le_of_ble_eq_true rfl, Nat.le_of_ble_eq_true rfl⟩) hw hA rfl hl.1 rfl (Nat.le_of_ble_eq_true rfl) dX6_air_13 ⟨Nat.zero_le _, Nat.zero_le _⟩ (fun f2 H locs hp hw => ?_)
  rw [hp] at hw
  refine lv_dload hx hb dX6_air_16 (lv_at hl 3 rfl) ?_
  refine lv_dconst0 hx hb dX6_air_18 ?_
  refine lv_ldc2d (v := 4625196817309499392) hx hb hown (hts (.constantDouble RX6 97 (4625196817309499392)) (by decide +kernel)) dX6_air_19 ?_
  refine kS_V (As := [.double zs, .double FP.dconst0, .double 4625196817309499392]) (rest := []) ⟨hx, hb, hml, hown, hts⟩ (c_X6_requireWithin l G dA L f zs FP.dconst0 4625196817309499392 h3) (va_cwS 3 hts gX6_air_X6_requireWithin rfl rfl rfl (by decide +kernel) ⟨Nat.le_of_ble_eq_true rfl, Nat.le_of_ble_eq_true rfl⟩) hw hA rfl hl.1 rfl (Nat.le_of_ble_eq_true rfl) dX6_air_22 ⟨Nat.zero_le _, Nat.zero_le _⟩ (fun f3 H locs hp hw => ?_)
  rw [hp] at hw
  refine lv_aload_n hx hb dX6_air_25 rfl (lv_at hl 0 rfl) ?_
  refine wg (C := RX6) (T := TX6) (N := 8) hx hb hts hi6 hown hw (hC.m (by decide)) hR.x rfl 3 (by decide) (hts (.fieldLink RX6 41 "LayerMoisture" "state" "LLayerMoisture$Air;") (by decide +kernel)) (fun _ h9 => h9) (v := .ref (ad 3)) rfl dX6_air_26 ?_
  refine lv_dload_n hx hb dX6_air_29 rfl (lv_at hl 1 rfl) ?_
  refine wp_ (C := RX0) (T := TX0) (N := 4) hx hb hts hi0 tyX0 tyX0_ok nmX0 hown hw (hC.m (by decide)) hR.air rfl 0 (by decide) (hts (.fieldLink RX6 99 "LayerMoisture$Air" "kelvin" "D") (by decide +kernel)) (fun _ h9 => h9) rfl (ty := .double) (v := .double u) (by decide +kernel) rfl rfl (Nat.le_of_ble_eq_true rfl) dX6_air_30 (fun H locs hw => ?_)
  obtain ⟨f4, ef4⟩ : ∃ z : Nat → va_E, z = va_up f (ad 3) (.inr (1, [.double u, .double ai.2.1, .double ai.2.2.1, .double ai.2.2.2])) := ⟨_, rfl⟩
  have hw : ww G dA A s L f4 H locs := by rw [ef4]; exact hw
  have hR5 : RC ad dA n nb q qk ((u, ai.2.1, ai.2.2.1, ai.2.2.2)) le bd wt kk tt pn hr f0 f4 := by rw [ef4]; exact hR.sAir hC (u, ai.2.1, ai.2.2.1, ai.2.2.2)
  refine lv_aload_n hx hb dX6_air_33 rfl (lv_at hl 0 rfl) ?_
  refine wg (C := RX6) (T := TX6) (N := 8) hx hb hts hi6 hown hw (hC.m (by decide)) hR5.x rfl 3 (by decide) (hts (.fieldLink RX6 41 "LayerMoisture" "state" "LLayerMoisture$Air;") (by decide +kernel)) (fun _ h9 => h9) (v := .ref (ad 3)) rfl dX6_air_34 ?_
  refine lv_dload_n hx hb dX6_air_37 rfl (lv_at hl 2 rfl) ?_
  refine wp_ (C := RX0) (T := TX0) (N := 4) hx hb hts hi0 tyX0 tyX0_ok nmX0 hown hw (hC.m (by decide)) hR5.air rfl 1 (by decide) (hts (.fieldLink RX6 102 "LayerMoisture$Air" "damp" "D") (by decide +kernel)) (fun _ h9 => h9) rfl (ty := .double) (v := .double v) (by decide +kernel) rfl rfl (Nat.le_of_ble_eq_true rfl) dX6_air_38 (fun H locs hw => ?_)
  obtain ⟨f6, ef6⟩ : ∃ z : Nat → va_E, z = va_up f4 (ad 3) (.inr (1, [.double u, .double v, .double ai.2.2.1, .double ai.2.2.2])) := ⟨_, rfl⟩
  have hw : ww G dA A s L f6 H locs := by rw [ef6]; exact hw
  have hR7 : RC ad dA n nb q qk ((u, v, ai.2.2.1, ai.2.2.2)) le bd wt kk tt pn hr f0 f6 := by rw [ef6]; exact hR5.sAir hC (u, v, ai.2.2.1, ai.2.2.2)
  refine lv_aload_n hx hb dX6_air_41 rfl (lv_at hl 0 rfl) ?_
  refine wg (C := RX6) (T := TX6) (N := 8) hx hb hts hi6 hown hw (hC.m (by decide)) hR7.x rfl 3 (by decide) (hts (.fieldLink RX6 41 "LayerMoisture" "state" "LLayerMoisture$Air;") (by decide +kernel)) (fun _ h9 => h9) (v := .ref (ad 3)) rfl dX6_air_42 ?_
  refine lv_dload hx hb dX6_air_45 (lv_at hl 3 rfl) ?_
  refine wp_ (C := RX0) (T := TX0) (N := 4) hx hb hts hi0 tyX0 tyX0_ok nmX0 hown hw (hC.m (by decide)) hR7.air rfl 2 (by decide) (hts (.fieldLink RX6 105 "LayerMoisture$Air" "speed" "D") (by decide +kernel)) (fun _ h9 => h9) rfl (ty := .double) (v := .double zs) (by decide +kernel) rfl rfl (Nat.le_of_ble_eq_true rfl) dX6_air_47 (fun H locs hw => ?_)
  obtain ⟨f8, ef8⟩ : ∃ z : Nat → va_E, z = va_up f6 (ad 3) (.inr (1, [.double u, .double v, .double zs, .double ai.2.2.2])) := ⟨_, rfl⟩
  have hw : ww G dA A s L f8 H locs := by rw [ef8]; exact hw
  have hR9 : RC ad dA n nb q qk ((u, v, zs, ai.2.2.2)) le bd wt kk tt pn hr f0 f8 := by rw [ef8]; exact hR7.sAir hC (u, v, zs, ai.2.2.2)
  exact hret _ _ _ _ _ hw hR9 dX6_air_50

set_option maxHeartbeats 4000000 in
set_option maxRecDepth 100000 in
theorem x1_X6_air (l : Launch) (hlt : l.stackTraces = false) (G : va_G) (dA : Nat → ClassId) (sa : Nat → Nat) (L : List Nat) (f : Nat → va_E) (ad : Nat → Nat) (n nb : Nat) (q qk : Nat → Option Nat) (ai : sA) (le : sL) (bd : Nat → sB) (wt : Nat → Nat → UInt64) (kk : Nat → UInt64 × UInt64) (tt : sT) (pn : sP) (hr : Nat) (f0 : Nat → va_E) (u v zs : UInt64)  (hC : Cx ad L n nb q qk) (hR : RC ad dA n nb q qk ai le bd wt kk tt pn hr f0 f) (hbad : ¬ inR u 4643000109586448384 4645744490609377280)  : mX l yX6_air wsX6_air ({ frames := 8, cells := 1, slots := 6, locals := 120 }) G dA [.ref (ad 0), .double u, .double v, .double zs] L f sa 1 := by
  refine mX_of (cc := cX6_air) (maxL := 7) (by decide) rfl (Nat.le_of_ble_eq_true rfl) ?_
  intro p e s m below meth c A ls hx hb hml hown hts hlocks hA ht hE hw hl
  have hown : s.vm.findClass RX6 = some m.cls := hown
  have hl : lv_has ls 7 [(0, .ref (ad 0)), (1, .double u), (3, .double v), (5, .double zs)] := hl
  refine lv_dload_n hx hb dX6_air_0 rfl (lv_at hl 1 rfl) ?_
  refine lv_ldc2d (v := 4643000109586448384) hx hb hown (hts (.constantDouble RX6 95 (4643000109586448384)) (by decide +kernel)) dX6_air_1 ?_
  refine lv_ldc2d (v := 4645744490609377280) hx hb hown (hts (.constantDouble RX6 74 (4645744490609377280)) (by decide +kernel)) dX6_air_4 ?_
  exact kX_S (As := [.double u, .double 4643000109586448384, .double 4645744490609377280]) (rest := []) ⟨hx, hb, hml, hown, hts⟩ (x_X6_requireWithin l hlt G dA sa L f u 4643000109586448384 4645744490609377280 hbad) (va_cwS 3 hts gX6_air_X6_requireWithin rfl rfl rfl (by decide +kernel) ⟨Nat.le_of_ble_eq_true rfl, Nat.le_of_ble_eq_true rfl⟩) hw hE hA rfl hl.1 rfl (Nat.le_of_ble_eq_true rfl) dX6_air_7 ⟨Nat.le_of_ble_eq_true rfl, Nat.le_of_ble_eq_true rfl⟩ (fun ce q H locs hw hc hv hcl => mX_out hw ht hlocks hc hv hcl)

set_option maxHeartbeats 4000000 in
set_option maxRecDepth 100000 in
theorem x2_X6_air (l : Launch) (hlt : l.stackTraces = false) (G : va_G) (dA : Nat → ClassId) (sa : Nat → Nat) (L : List Nat) (f : Nat → va_E) (ad : Nat → Nat) (n nb : Nat) (q qk : Nat → Option Nat) (ai : sA) (le : sL) (bd : Nat → sB) (wt : Nat → Nat → UInt64) (kk : Nat → UInt64 × UInt64) (tt : sT) (pn : sP) (hr : Nat) (f0 : Nat → va_E) (u v zs : UInt64)  (hC : Cx ad L n nb q qk) (hR : RC ad dA n nb q qk ai le bd wt kk tt pn hr f0 f) (h1 : inR u 4643000109586448384 4645744490609377280) (hbad : ¬ inR v FP.dconst0 FP.dconst1)  : mX l yX6_air wsX6_air ({ frames := 8, cells := 1, slots := 6, locals := 120 }) G dA [.ref (ad 0), .double u, .double v, .double zs] L f sa 1 := by
  refine mX_of (cc := cX6_air) (maxL := 7) (by decide) rfl (Nat.le_of_ble_eq_true rfl) ?_
  intro p e s m below meth c A ls hx hb hml hown hts hlocks hA ht hE hw hl
  have hown : s.vm.findClass RX6 = some m.cls := hown
  have hl : lv_has ls 7 [(0, .ref (ad 0)), (1, .double u), (3, .double v), (5, .double zs)] := hl
  refine lv_dload_n hx hb dX6_air_0 rfl (lv_at hl 1 rfl) ?_
  refine lv_ldc2d (v := 4643000109586448384) hx hb hown (hts (.constantDouble RX6 95 (4643000109586448384)) (by decide +kernel)) dX6_air_1 ?_
  refine lv_ldc2d (v := 4645744490609377280) hx hb hown (hts (.constantDouble RX6 74 (4645744490609377280)) (by decide +kernel)) dX6_air_4 ?_
  refine kS_V (As := [.double u, .double 4643000109586448384, .double 4645744490609377280]) (rest := []) ⟨hx, hb, hml, hown, hts⟩ (c_X6_requireWithin l G dA L f u 4643000109586448384 4645744490609377280 h1) (va_cwS 3 hts gX6_air_X6_requireWithin rfl rfl rfl (by decide +kernel) ⟨Nat.le_of_ble_eq_true rfl, Nat.le_of_ble_eq_true rfl⟩) hw hA rfl hl.1 rfl (Nat.le_of_ble_eq_true rfl) dX6_air_7 ⟨Nat.zero_le _, Nat.zero_le _⟩ (fun f1 H locs hp hw => ?_)
  rw [hp] at hw
  refine lv_dload_n hx hb dX6_air_10 rfl (lv_at hl 2 rfl) ?_
  refine lv_dconst0 hx hb dX6_air_11 ?_
  refine lv_dconst1 hx hb dX6_air_12 ?_
  exact kX_S (As := [.double v, .double FP.dconst0, .double FP.dconst1]) (rest := []) ⟨hx, hb, hml, hown, hts⟩ (x_X6_requireWithin l hlt G dA sa L f v FP.dconst0 FP.dconst1 hbad) (va_cwS 3 hts gX6_air_X6_requireWithin rfl rfl rfl (by decide +kernel) ⟨Nat.le_of_ble_eq_true rfl, Nat.le_of_ble_eq_true rfl⟩) hw hE hA rfl hl.1 rfl (Nat.le_of_ble_eq_true rfl) dX6_air_13 ⟨Nat.le_of_ble_eq_true rfl, Nat.le_of_ble_eq_true rfl⟩ (fun ce q H locs hw hc hv hcl => mX_out hw ht hlocks hc hv hcl)

set_option maxHeartbeats 4000000 in
set_option maxRecDepth 100000 in
theorem x3_X6_air (l : Launch) (hlt : l.stackTraces = false) (G : va_G) (dA : Nat → ClassId) (sa : Nat → Nat) (L : List Nat) (f : Nat → va_E) (ad : Nat → Nat) (n nb : Nat) (q qk : Nat → Option Nat) (ai : sA) (le : sL) (bd : Nat → sB) (wt : Nat → Nat → UInt64) (kk : Nat → UInt64 × UInt64) (tt : sT) (pn : sP) (hr : Nat) (f0 : Nat → va_E) (u v zs : UInt64)  (hC : Cx ad L n nb q qk) (hR : RC ad dA n nb q qk ai le bd wt kk tt pn hr f0 f) (h1 : inR u 4643000109586448384 4645744490609377280) (h2 : inR v FP.dconst0 FP.dconst1) (hbad : ¬ inR zs FP.dconst0 4625196817309499392)  : mX l yX6_air wsX6_air ({ frames := 8, cells := 1, slots := 6, locals := 120 }) G dA [.ref (ad 0), .double u, .double v, .double zs] L f sa 1 := by
  refine mX_of (cc := cX6_air) (maxL := 7) (by decide) rfl (Nat.le_of_ble_eq_true rfl) ?_
  intro p e s m below meth c A ls hx hb hml hown hts hlocks hA ht hE hw hl
  have hown : s.vm.findClass RX6 = some m.cls := hown
  have hl : lv_has ls 7 [(0, .ref (ad 0)), (1, .double u), (3, .double v), (5, .double zs)] := hl
  refine lv_dload_n hx hb dX6_air_0 rfl (lv_at hl 1 rfl) ?_
  refine lv_ldc2d (v := 4643000109586448384) hx hb hown (hts (.constantDouble RX6 95 (4643000109586448384)) (by decide +kernel)) dX6_air_1 ?_
  refine lv_ldc2d (v := 4645744490609377280) hx hb hown (hts (.constantDouble RX6 74 (4645744490609377280)) (by decide +kernel)) dX6_air_4 ?_
  refine kS_V (As := [.double u, .double 4643000109586448384, .double 4645744490609377280]) (rest := []) ⟨hx, hb, hml, hown, hts⟩ (c_X6_requireWithin l G dA L f u 4643000109586448384 4645744490609377280 h1) (va_cwS 3 hts gX6_air_X6_requireWithin rfl rfl rfl (by decide +kernel) ⟨Nat.le_of_ble_eq_true rfl, Nat.le_of_ble_eq_true rfl⟩) hw hA rfl hl.1 rfl (Nat.le_of_ble_eq_true rfl) dX6_air_7 ⟨Nat.zero_le _, Nat.zero_le _⟩ (fun f1 H locs hp hw => ?_)
  rw [hp] at hw
  refine lv_dload_n hx hb dX6_air_10 rfl (lv_at hl 2 rfl) ?_
  refine lv_dconst0 hx hb dX6_air_11 ?_
  refine lv_dconst1 hx hb dX6_air_12 ?_
  refine kS_V (As := [.double v, .double FP.dconst0, .double FP.dconst1]) (rest := []) ⟨hx, hb, hml, hown, hts⟩ (c_X6_requireWithin l G dA L f v FP.dconst0 FP.dconst1 h2) (va_cwS 3 hts gX6_air_X6_requireWithin rfl rfl rfl (by decide +kernel) ⟨Nat.le_of_ble_eq_true rfl, Nat.le_of_ble_eq_true rfl⟩) hw hA rfl hl.1 rfl (Nat.le_of_ble_eq_true rfl) dX6_air_13 ⟨Nat.zero_le _, Nat.zero_le _⟩ (fun f2 H locs hp hw => ?_)
  rw [hp] at hw
  refine lv_dload hx hb dX6_air_16 (lv_at hl 3 rfl) ?_
  refine lv_dconst0 hx hb dX6_air_18 ?_
  refine lv_ldc2d (v := 4625196817309499392) hx hb hown (hts (.constantDouble RX6 97 (4625196817309499392)) (by decide +kernel)) dX6_air_19 ?_
  exact kX_S (As := [.double zs, .double FP.dconst0, .double 4625196817309499392]) (rest := []) ⟨hx, hb, hml, hown, hts⟩ (x_X6_requireWithin l hlt G dA sa L f zs FP.dconst0 4625196817309499392 hbad) (va_cwS 3 hts gX6_air_X6_requireWithin rfl rfl rfl (by decide +kernel) ⟨Nat.le_of_ble_eq_true rfl, Nat.le_of_ble_eq_true rfl⟩) hw hE hA rfl hl.1 rfl (Nat.le_of_ble_eq_true rfl) dX6_air_22 ⟨Nat.le_of_ble_eq_true rfl, Nat.le_of_ble_eq_true rfl⟩ (fun ce q H locs hw hc hv hcl => mX_out hw ht hlocks hc hv hcl)

set_option maxHeartbeats 4000000 in
set_option maxRecDepth 100000 in
theorem c_X6_vent (l : Launch) (G : va_G) (dA : Nat → ClassId) (L : List Nat) (f : Nat → va_E) (ad : Nat → Nat) (n nb : Nat) (q qk : Nat → Option Nat) (ai : sA) (le : sL) (bd : Nat → sB) (wt : Nat → Nat → UInt64) (kk : Nat → UInt64 × UInt64) (tt : sT) (pn : sP) (hr : Nat) (f0 : Nat → va_E) (u : UInt64)  (hC : Cx ad L n nb q qk) (hR : RC ad dA n nb q qk ai le bd wt kk tt pn hr f0 f) (h1 : inR u FP.dconst0 FP.dconst1)  : mV l yX6_vent wsX6_vent ({ frames := 1, cells := 0, slots := 0, locals := 25 }) G dA [.ref (ad 0), .double u] L f (fun f2 => RC ad dA n nb q qk ((ai.1, ai.2.1, ai.2.2.1, u)) le bd wt kk tt pn hr f0 f2) := by
  refine mV_of (cc := cX6_vent) (maxL := 3) (by decide) rfl (Nat.le_of_ble_eq_true rfl) ?_
  intro p e s m below meth c A ls Q hx hb hml hown hts hlocks hA hin0 hw hl hret
  have hown : s.vm.findClass RX6 = some m.cls := hown
  have hl : lv_has ls 3 [(0, .ref (ad 0)), (1, .double u)] := hl
  have hi0 : ∀ w ∈ u_ws RX0 TX0 4, w ∈ wsX6_vent := by decide +kernel
  have hi6 : ∀ w ∈ u_ws RX6 TX6 8, w ∈ wsX6_vent := by decide +kernel
  refine lv_dload_n hx hb dX6_vent_0 rfl (lv_at hl 1 rfl) ?_
  refine lv_dconst0 hx hb dX6_vent_1 ?_
  refine lv_dconst1 hx hb dX6_vent_2 ?_
  refine kS_V (As := [.double u, .double FP.dconst0, .double FP.dconst1]) (rest := []) ⟨hx, hb, hml, hown, hts⟩ (c_X6_requireWithin l G dA L f u FP.dconst0 FP.dconst1 h1) (va_cwS 3 hts gX6_vent_X6_requireWithin rfl rfl rfl (by decide +kernel) ⟨Nat.le_of_ble_eq_true rfl, Nat.le_of_ble_eq_true rfl⟩) hw hA rfl hl.1 rfl (Nat.le_of_ble_eq_true rfl) dX6_vent_3 ⟨Nat.zero_le _, Nat.zero_le _⟩ (fun f1 H locs hp hw => ?_)
  rw [hp] at hw
  refine lv_aload_n hx hb dX6_vent_6 rfl (lv_at hl 0 rfl) ?_
  refine wg (C := RX6) (T := TX6) (N := 8) hx hb hts hi6 hown hw (hC.m (by decide)) hR.x rfl 3 (by decide) (hts (.fieldLink RX6 41 "LayerMoisture" "state" "LLayerMoisture$Air;") (by decide +kernel)) (fun _ h9 => h9) (v := .ref (ad 3)) rfl dX6_vent_7 ?_
  refine lv_dload_n hx hb dX6_vent_10 rfl (lv_at hl 1 rfl) ?_
  refine wp_ (C := RX0) (T := TX0) (N := 4) hx hb hts hi0 tyX0 tyX0_ok nmX0 hown hw (hC.m (by decide)) hR.air rfl 3 (by decide) (hts (.fieldLink RX6 108 "LayerMoisture$Air" "ventShare" "D") (by decide +kernel)) (fun _ h9 => h9) rfl (ty := .double) (v := .double u) (by decide +kernel) rfl rfl (Nat.le_of_ble_eq_true rfl) dX6_vent_11 (fun H locs hw => ?_)
  obtain ⟨f2, ef2⟩ : ∃ z : Nat → va_E, z = va_up f (ad 3) (.inr (1, [.double ai.1, .double ai.2.1, .double ai.2.2.1, .double u])) := ⟨_, rfl⟩
  have hw : ww G dA A s L f2 H locs := by rw [ef2]; exact hw
  have hR3 : RC ad dA n nb q qk ((ai.1, ai.2.1, ai.2.2.1, u)) le bd wt kk tt pn hr f0 f2 := by rw [ef2]; exact hR.sAir hC (ai.1, ai.2.1, ai.2.2.1, u)
  exact hret _ _ _ _ _ hw hR3 dX6_vent_14

set_option maxHeartbeats 4000000 in
set_option maxRecDepth 100000 in
theorem x1_X6_vent (l : Launch) (hlt : l.stackTraces = false) (G : va_G) (dA : Nat → ClassId) (sa : Nat → Nat) (L : List Nat) (f : Nat → va_E) (ad : Nat → Nat) (n nb : Nat) (q qk : Nat → Option Nat) (ai : sA) (le : sL) (bd : Nat → sB) (wt : Nat → Nat → UInt64) (kk : Nat → UInt64 × UInt64) (tt : sT) (pn : sP) (hr : Nat) (f0 : Nat → va_E) (u : UInt64)  (hC : Cx ad L n nb q qk) (hR : RC ad dA n nb q qk ai le bd wt kk tt pn hr f0 f) (hbad : ¬ inR u FP.dconst0 FP.dconst1)  : mX l yX6_vent wsX6_vent ({ frames := 8, cells := 1, slots := 6, locals := 120 }) G dA [.ref (ad 0), .double u] L f sa 1 := by
  refine mX_of (cc := cX6_vent) (maxL := 3) (by decide) rfl (Nat.le_of_ble_eq_true rfl) ?_
  intro p e s m below meth c A ls hx hb hml hown hts hlocks hA ht hE hw hl
  have hown : s.vm.findClass RX6 = some m.cls := hown
  have hl : lv_has ls 3 [(0, .ref (ad 0)), (1, .double u)] := hl
  refine lv_dload_n hx hb dX6_vent_0 rfl (lv_at hl 1 rfl) ?_
  refine lv_dconst0 hx hb dX6_vent_1 ?_
  refine lv_dconst1 hx hb dX6_vent_2 ?_
  exact kX_S (As := [.double u, .double FP.dconst0, .double FP.dconst1]) (rest := []) ⟨hx, hb, hml, hown, hts⟩ (x_X6_requireWithin l hlt G dA sa L f u FP.dconst0 FP.dconst1 hbad) (va_cwS 3 hts gX6_vent_X6_requireWithin rfl rfl rfl (by decide +kernel) ⟨Nat.le_of_ble_eq_true rfl, Nat.le_of_ble_eq_true rfl⟩) hw hE hA rfl hl.1 rfl (Nat.le_of_ble_eq_true rfl) dX6_vent_3 ⟨Nat.le_of_ble_eq_true rfl, Nat.le_of_ble_eq_true rfl⟩ (fun ce q H locs hw hc hv hcl => mX_out hw ht hlocks hc hv hcl)

set_option maxHeartbeats 4000000 in
set_option maxRecDepth 100000 in
theorem c_X6_soak (l : Launch) (G : va_G) (dA : Nat → ClassId) (L : List Nat) (f : Nat → va_E) (ad : Nat → Nat) (n nb : Nat) (q qk : Nat → Option Nat) (ai : sA) (le : sL) (bd : Nat → sB) (wt : Nat → Nat → UInt64) (kk : Nat → UInt64 × UInt64) (tt : sT) (pn : sP) (hr : Nat) (f0 : Nat → va_E) (j k : Nat) (u : UInt64)  (hC : Cx ad L n nb q qk) (hR : RC ad dA n nb q qk ai le bd wt kk tt pn hr f0 f) (hj : j < nb) (hi : k < n) (h1 : inR u FP.dconst0 4613937818241073152) (hth : ¬ (bd j).1 = 0)  : mV l yX6_soak wsX6_soak ({ frames := 1, cells := 0, slots := 0, locals := 25 }) G dA [.ref (ad 0), .int (nI j), .int (nI k), .double u] L f (fun f2 => RC ad dA n nb q qk ai le bd (va_up wt j (vf_upd (wt j) k u)) kk tt pn hr f0 f2) := by
  refine mV_of (cc := cX6_soak) (maxL := 6) (by decide) rfl (Nat.le_of_ble_eq_true rfl) ?_
  intro p e s m below meth c A ls Q hx hb hml hown hts hlocks hA hin0 hw hl hret
  have hown : s.vm.findClass RX6 = some m.cls := hown
  have hl : lv_has ls 6 [(0, .ref (ad 0)), (1, .int (nI j)), (2, .int (nI k)), (3, .double u)] := hl
  have hi1 : ∀ w ∈ u_ws RX1 TX1 7, w ∈ wsX6_soak := by decide +kernel
  refine lv_aload_n hx hb dX6_soak_0 rfl (lv_at hl 0 rfl) ?_
  refine lv_iload_n hx hb dX6_soak_1 rfl (lv_at hl 1 rfl) ?_
  refine kV_R (C := RX6) (T := TX6) (N := 8) (As := [.int (nI j)]) (rest := []) ⟨hx, hb, hml, hown, hts⟩ (c_X6_slotOf l G dA L f (ad 0) (ad 1) (ad 2) (ad 3) (ad 4) (ad 5) (ad 7) n hr nb j (ad (34 + 2 * j)) q (hC.m (by decide)) hR.x (hC.m (by decide)) hR.bs hC.nb31 hj (hC.2.2.2.2.1 j hj)) (cwV 1 hts gX6_soak_X6_slotOf rfl rfl rfl (by decide +kernel) ⟨Nat.le_of_ble_eq_true rfl, Nat.le_of_ble_eq_true rfl⟩) hw hA (hC.m (by decide)) hR.x rfl rfl hl.1 rfl (Nat.le_of_ble_eq_true rfl) dX6_soak_2 ⟨Nat.zero_le _, Nat.zero_le _⟩ (fun H locs hw => ?_)
  refine lv_astore (lv' := [(5, .ref (ad (34 + 2 * j))), (0, .ref (ad 0)), (1, .int (nI j)), (2, .int (nI k)), (3, .double u)]) hx hb dX6_soak_5 hl (by decide) rfl (fun ls hl => ?_)
  refine lv_aload_n hx hb dX6_soak_7 rfl (lv_at hl 1 rfl) ?_
  refine lv_iload_n hx hb dX6_soak_8 rfl (lv_at hl 3 rfl) ?_
  refine kV_V (C := RX6) (T := TX6) (N := 8) (As := [.int (nI k)]) (rest := []) ⟨hx, hb, hml, hown, hts⟩ (c_X6_requireLayer l G dA L f (ad 0) (ad 1) (ad 2) (ad 3) (ad 4) (ad 5) (ad 7) n hr k (hC.m (by decide)) hR.x hC.n31 hi) (cwV 1 hts gX6_soak_X6_requireLayer rfl rfl rfl (by decide +kernel) ⟨Nat.le_of_ble_eq_true rfl, Nat.le_of_ble_eq_true rfl⟩) hw hA (hC.m (by decide)) hR.x rfl rfl hl.1 rfl (Nat.le_of_ble_eq_true rfl) dX6_soak_9 ⟨Nat.zero_le _, Nat.zero_le _⟩ (fun f1 H locs hp hw => ?_)
  rw [hp] at hw
  refine lv_dload_n hx hb dX6_soak_12 rfl (lv_at hl 4 rfl) ?_
  refine lv_dconst0 hx hb dX6_soak_13 ?_
  refine lv_ldc2d (v := 4613937818241073152) hx hb hown (hts (.constantDouble RX6 80 (4613937818241073152)) (by decide +kernel)) dX6_soak_14 ?_
  refine kS_V (As := [.double u, .double FP.dconst0, .double 4613937818241073152]) (rest := []) ⟨hx, hb, hml, hown, hts⟩ (c_X6_requireWithin l G dA L f u FP.dconst0 4613937818241073152 h1) (va_cwS 3 hts gX6_soak_X6_requireWithin rfl rfl rfl (by decide +kernel) ⟨Nat.le_of_ble_eq_true rfl, Nat.le_of_ble_eq_true rfl⟩) hw hA rfl hl.1 rfl (Nat.le_of_ble_eq_true rfl) dX6_soak_17 ⟨Nat.zero_le _, Nat.zero_le _⟩ (fun f2 H locs hp hw => ?_)
  rw [hp] at hw
  refine lv_aload hx hb dX6_soak_20 (lv_at hl 0 rfl) ?_
  refine kS_V (As := [.ref (ad (34 + 2 * j))]) (rest := []) ⟨hx, hb, hml, hown, hts⟩ (c_X6_requireThere l G dA L f (ad (34 + 2 * j)) (ad (35 + 2 * j)) (ad (12 + (bd j).2.2.2.2.2)) (bd j).1 (bd j).2.2.1 (bd j).2.2.2.2.1 (bd j).2.1 (bd j).2.2.2.1 (hC.mb hj) (hR.brd hj) hth) (va_cwS 1 hts gX6_soak_X6_requireThere rfl rfl rfl (by decide +kernel) ⟨Nat.le_of_ble_eq_true rfl, Nat.le_of_ble_eq_true rfl⟩) hw hA rfl hl.1 rfl (Nat.le_of_ble_eq_true rfl) dX6_soak_22 ⟨Nat.zero_le _, Nat.zero_le _⟩ (fun f3 H locs hp hw => ?_)
  rw [hp] at hw
  refine lv_aload hx hb dX6_soak_25 (lv_at hl 0 rfl) ?_
  refine wg (C := RX1) (T := TX1) (N := 7) hx hb hts hi1 hown hw (hC.mb hj) (hR.brd hj) rfl 0 (by decide) (hts (.fieldLink RX6 119 "LayerMoisture$Board" "wetness" "[D") (by decide +kernel)) (fun _ h9 => h9) (v := .ref (ad (35 + 2 * j))) rfl dX6_soak_27 ?_
  refine lv_iload_n hx hb dX6_soak_30 rfl (lv_at hl 3 rfl) ?_
  refine lv_dload_n hx hb dX6_soak_31 rfl (lv_at hl 4 rfl) ?_
  refine wst_d hx hb hw (hC.mw hj) (hR.wet hj) k hi hC.n31 rfl dX6_soak_32 (fun H locs hw => ?_)
  obtain ⟨f4, ef4⟩ : ∃ z : Nat → va_E, z = va_up f (ad (35 + 2 * j)) (aD (dA 1) n (vf_upd ((wt j)) k u)) := ⟨_, rfl⟩
  have hw : ww G dA A s L f4 H locs := by rw [ef4]; exact hw
  have hR5 : RC ad dA n nb q qk ai le bd (va_up wt j ((vf_upd ((wt j)) k u))) kk tt pn hr f0 f4 := by rw [ef4]; exact hR.sWet hC hj _
  exact hret _ _ _ _ _ hw hR5 dX6_soak_33

set_option maxHeartbeats 4000000 in
set_option maxRecDepth 100000 in
theorem x1_X6_soak (l : Launch) (hlt : l.stackTraces = false) (G : va_G) (dA : Nat → ClassId) (sa : Nat → Nat) (L : List Nat) (f : Nat → va_E) (ad : Nat → Nat) (n nb : Nat) (q qk : Nat → Option Nat) (ai : sA) (le : sL) (bd : Nat → sB) (wt : Nat → Nat → UInt64) (kk : Nat → UInt64 × UInt64) (tt : sT) (pn : sP) (hr : Nat) (f0 : Nat → va_E) (i k : Int32) (u : UInt64)  (hC : Cx ad L n nb q qk) (hR : RC ad dA n nb q qk ai le bd wt kk tt pn hr f0 f) (hbad : i < 0 ∨ nI nb ≤ i)  : mX l yX6_soak wsX6_soak ({ frames := 8, cells := 1, slots := 6, locals := 116 }) G dA [.ref (ad 0), .int i, .int k, .double u] L f sa 0 := by
  refine mX_of (cc := cX6_soak) (maxL := 6) (by decide) rfl (Nat.le_of_ble_eq_true rfl) ?_
  intro p e s m below meth c A ls hx hb hml hown hts hlocks hA ht hE hw hl
  have hown : s.vm.findClass RX6 = some m.cls := hown
  have hl : lv_has ls 6 [(0, .ref (ad 0)), (1, .int i), (2, .int k), (3, .double u)] := hl
  refine lv_aload_n hx hb dX6_soak_0 rfl (lv_at hl 0 rfl) ?_
  refine lv_iload_n hx hb dX6_soak_1 rfl (lv_at hl 1 rfl) ?_
  exact kX_V (C := RX6) (T := TX6) (N := 8) (As := [.int i]) (rest := []) ⟨hx, hb, hml, hown, hts⟩ (x_X6_slotOf l hlt G dA sa L f (ad 0) (ad 1) (ad 2) (ad 3) (ad 4) (ad 5) (ad 7) n hr nb q i (hC.m (by decide)) hR.x (hC.m (by decide)) hR.bs hC.nb31 hbad) (cwV 1 hts gX6_soak_X6_slotOf rfl rfl rfl (by decide +kernel) ⟨Nat.le_of_ble_eq_true rfl, Nat.le_of_ble_eq_true rfl⟩) hw hE hA (hC.m (by decide)) hR.x rfl rfl hl.1 rfl (Nat.le_of_ble_eq_true rfl) dX6_soak_2 ⟨Nat.le_of_ble_eq_true rfl, Nat.le_of_ble_eq_true rfl⟩ (fun ce q H locs hw hc hv hcl => mX_out hw ht hlocks hc hv hcl)

set_option maxHeartbeats 4000000 in
set_option maxRecDepth 100000 in
theorem x2_X6_soak (l : Launch) (hlt : l.stackTraces = false) (G : va_G) (dA : Nat → ClassId) (sa : Nat → Nat) (L : List Nat) (f : Nat → va_E) (ad : Nat → Nat) (n nb : Nat) (q qk : Nat → Option Nat) (ai : sA) (le : sL) (bd : Nat → sB) (wt : Nat → Nat → UInt64) (kk : Nat → UInt64 × UInt64) (tt : sT) (pn : sP) (hr : Nat) (f0 : Nat → va_E) (j : Nat) (i : Int32) (u : UInt64)  (hC : Cx ad L n nb q qk) (hR : RC ad dA n nb q qk ai le bd wt kk tt pn hr f0 f) (hj : j < nb) (hbad : i < 0 ∨ nI n ≤ i)  : mX l yX6_soak wsX6_soak ({ frames := 8, cells := 1, slots := 6, locals := 116 }) G dA [.ref (ad 0), .int (nI j), .int i, .double u] L f sa 0 := by
  refine mX_of (cc := cX6_soak) (maxL := 6) (by decide) rfl (Nat.le_of_ble_eq_true rfl) ?_
  intro p e s m below meth c A ls hx hb hml hown hts hlocks hA ht hE hw hl
  have hown : s.vm.findClass RX6 = some m.cls := hown
  have hl : lv_has ls 6 [(0, .ref (ad 0)), (1, .int (nI j)), (2, .int i), (3, .double u)] := hl
  refine lv_aload_n hx hb dX6_soak_0 rfl (lv_at hl 0 rfl) ?_
  refine lv_iload_n hx hb dX6_soak_1 rfl (lv_at hl 1 rfl) ?_
  refine kV_R (C := RX6) (T := TX6) (N := 8) (As := [.int (nI j)]) (rest := []) ⟨hx, hb, hml, hown, hts⟩ (c_X6_slotOf l G dA L f (ad 0) (ad 1) (ad 2) (ad 3) (ad 4) (ad 5) (ad 7) n hr nb j (ad (34 + 2 * j)) q (hC.m (by decide)) hR.x (hC.m (by decide)) hR.bs hC.nb31 hj (hC.2.2.2.2.1 j hj)) (cwV 1 hts gX6_soak_X6_slotOf rfl rfl rfl (by decide +kernel) ⟨Nat.le_of_ble_eq_true rfl, Nat.le_of_ble_eq_true rfl⟩) hw hA (hC.m (by decide)) hR.x rfl rfl hl.1 rfl (Nat.le_of_ble_eq_true rfl) dX6_soak_2 ⟨Nat.zero_le _, Nat.zero_le _⟩ (fun H locs hw => ?_)
  refine lv_astore (lv' := [(5, .ref (ad (34 + 2 * j))), (0, .ref (ad 0)), (1, .int (nI j)), (2, .int i), (3, .double u)]) hx hb dX6_soak_5 hl (by decide) rfl (fun ls hl => ?_)
  refine lv_aload_n hx hb dX6_soak_7 rfl (lv_at hl 1 rfl) ?_
  refine lv_iload_n hx hb dX6_soak_8 rfl (lv_at hl 3 rfl) ?_
  exact kX_V (C := RX6) (T := TX6) (N := 8) (As := [.int i]) (rest := []) ⟨hx, hb, hml, hown, hts⟩ (x_X6_requireLayer l hlt G dA sa L f (ad 0) (ad 1) (ad 2) (ad 3) (ad 4) (ad 5) (ad 7) n hr i (hC.m (by decide)) hR.x hbad) (cwV 1 hts gX6_soak_X6_requireLayer rfl rfl rfl (by decide +kernel) ⟨Nat.le_of_ble_eq_true rfl, Nat.le_of_ble_eq_true rfl⟩) hw hE hA (hC.m (by decide)) hR.x rfl rfl hl.1 rfl (Nat.le_of_ble_eq_true rfl) dX6_soak_9 ⟨Nat.le_of_ble_eq_true rfl, Nat.le_of_ble_eq_true rfl⟩ (fun ce q H locs hw hc hv hcl => mX_out hw ht hlocks hc hv hcl)

set_option maxHeartbeats 4000000 in
set_option maxRecDepth 100000 in
theorem x3_X6_soak (l : Launch) (hlt : l.stackTraces = false) (G : va_G) (dA : Nat → ClassId) (sa : Nat → Nat) (L : List Nat) (f : Nat → va_E) (ad : Nat → Nat) (n nb : Nat) (q qk : Nat → Option Nat) (ai : sA) (le : sL) (bd : Nat → sB) (wt : Nat → Nat → UInt64) (kk : Nat → UInt64 × UInt64) (tt : sT) (pn : sP) (hr : Nat) (f0 : Nat → va_E) (j k : Nat) (u : UInt64)  (hC : Cx ad L n nb q qk) (hR : RC ad dA n nb q qk ai le bd wt kk tt pn hr f0 f) (hj : j < nb) (hi : k < n) (hbad : ¬ inR u FP.dconst0 4613937818241073152)  : mX l yX6_soak wsX6_soak ({ frames := 8, cells := 1, slots := 6, locals := 120 }) G dA [.ref (ad 0), .int (nI j), .int (nI k), .double u] L f sa 1 := by
  refine mX_of (cc := cX6_soak) (maxL := 6) (by decide) rfl (Nat.le_of_ble_eq_true rfl) ?_
  intro p e s m below meth c A ls hx hb hml hown hts hlocks hA ht hE hw hl
  have hown : s.vm.findClass RX6 = some m.cls := hown
  have hl : lv_has ls 6 [(0, .ref (ad 0)), (1, .int (nI j)), (2, .int (nI k)), (3, .double u)] := hl
  refine lv_aload_n hx hb dX6_soak_0 rfl (lv_at hl 0 rfl) ?_
  refine lv_iload_n hx hb dX6_soak_1 rfl (lv_at hl 1 rfl) ?_
  refine kV_R (C := RX6) (T := TX6) (N := 8) (As := [.int (nI j)]) (rest := []) ⟨hx, hb, hml, hown, hts⟩ (c_X6_slotOf l G dA L f (ad 0) (ad 1) (ad 2) (ad 3) (ad 4) (ad 5) (ad 7) n hr nb j (ad (34 + 2 * j)) q (hC.m (by decide)) hR.x (hC.m (by decide)) hR.bs hC.nb31 hj (hC.2.2.2.2.1 j hj)) (cwV 1 hts gX6_soak_X6_slotOf rfl rfl rfl (by decide +kernel) ⟨Nat.le_of_ble_eq_true rfl, Nat.le_of_ble_eq_true rfl⟩) hw hA (hC.m (by decide)) hR.x rfl rfl hl.1 rfl (Nat.le_of_ble_eq_true rfl) dX6_soak_2 ⟨Nat.zero_le _, Nat.zero_le _⟩ (fun H locs hw => ?_)
  refine lv_astore (lv' := [(5, .ref (ad (34 + 2 * j))), (0, .ref (ad 0)), (1, .int (nI j)), (2, .int (nI k)), (3, .double u)]) hx hb dX6_soak_5 hl (by decide) rfl (fun ls hl => ?_)
  refine lv_aload_n hx hb dX6_soak_7 rfl (lv_at hl 1 rfl) ?_
  refine lv_iload_n hx hb dX6_soak_8 rfl (lv_at hl 3 rfl) ?_
  refine kV_V (C := RX6) (T := TX6) (N := 8) (As := [.int (nI k)]) (rest := []) ⟨hx, hb, hml, hown, hts⟩ (c_X6_requireLayer l G dA L f (ad 0) (ad 1) (ad 2) (ad 3) (ad 4) (ad 5) (ad 7) n hr k (hC.m (by decide)) hR.x hC.n31 hi) (cwV 1 hts gX6_soak_X6_requireLayer rfl rfl rfl (by decide +kernel) ⟨Nat.le_of_ble_eq_true rfl, Nat.le_of_ble_eq_true rfl⟩) hw hA (hC.m (by decide)) hR.x rfl rfl hl.1 rfl (Nat.le_of_ble_eq_true rfl) dX6_soak_9 ⟨Nat.zero_le _, Nat.zero_le _⟩ (fun f1 H locs hp hw => ?_)
  rw [hp] at hw
  refine lv_dload_n hx hb dX6_soak_12 rfl (lv_at hl 4 rfl) ?_
  refine lv_dconst0 hx hb dX6_soak_13 ?_
  refine lv_ldc2d (v := 4613937818241073152) hx hb hown (hts (.constantDouble RX6 80 (4613937818241073152)) (by decide +kernel)) dX6_soak_14 ?_
  exact kX_S (As := [.double u, .double FP.dconst0, .double 4613937818241073152]) (rest := []) ⟨hx, hb, hml, hown, hts⟩ (x_X6_requireWithin l hlt G dA sa L f u FP.dconst0 4613937818241073152 hbad) (va_cwS 3 hts gX6_soak_X6_requireWithin rfl rfl rfl (by decide +kernel) ⟨Nat.le_of_ble_eq_true rfl, Nat.le_of_ble_eq_true rfl⟩) hw hE hA rfl hl.1 rfl (Nat.le_of_ble_eq_true rfl) dX6_soak_17 ⟨Nat.le_of_ble_eq_true rfl, Nat.le_of_ble_eq_true rfl⟩ (fun ce q H locs hw hc hv hcl => mX_out hw ht hlocks hc hv hcl)

set_option maxHeartbeats 4000000 in
set_option maxRecDepth 100000 in
theorem x4_X6_soak (l : Launch) (hlt : l.stackTraces = false) (G : va_G) (dA : Nat → ClassId) (sa : Nat → Nat) (L : List Nat) (f : Nat → va_E) (ad : Nat → Nat) (n nb : Nat) (q qk : Nat → Option Nat) (ai : sA) (le : sL) (bd : Nat → sB) (wt : Nat → Nat → UInt64) (kk : Nat → UInt64 × UInt64) (tt : sT) (pn : sP) (hr : Nat) (f0 : Nat → va_E) (j k : Nat) (u : UInt64)  (hC : Cx ad L n nb q qk) (hR : RC ad dA n nb q qk ai le bd wt kk tt pn hr f0 f) (hj : j < nb) (hi : k < n) (h1 : inR u FP.dconst0 4613937818241073152) (hbad : (bd j).1 = 0)  : mX l yX6_soak wsX6_soak ({ frames := 8, cells := 1, slots := 6, locals := 115 }) G dA [.ref (ad 0), .int (nI j), .int (nI k), .double u] L f sa 2 := by
  refine mX_of (cc := cX6_soak) (maxL := 6) (by decide) rfl (Nat.le_of_ble_eq_true rfl) ?_
  intro p e s m below meth c A ls hx hb hml hown hts hlocks hA ht hE hw hl
  have hown : s.vm.findClass RX6 = some m.cls := hown
  have hl : lv_has ls 6 [(0, .ref (ad 0)), (1, .int (nI j)), (2, .int (nI k)), (3, .double u)] := hl
  refine lv_aload_n hx hb dX6_soak_0 rfl (lv_at hl 0 rfl) ?_
  refine lv_iload_n hx hb dX6_soak_1 rfl (lv_at hl 1 rfl) ?_
  refine kV_R (C := RX6) (T := TX6) (N := 8) (As := [.int (nI j)]) (rest := []) ⟨hx, hb, hml, hown, hts⟩ (c_X6_slotOf l G dA L f (ad 0) (ad 1) (ad 2) (ad 3) (ad 4) (ad 5) (ad 7) n hr nb j (ad (34 + 2 * j)) q (hC.m (by decide)) hR.x (hC.m (by decide)) hR.bs hC.nb31 hj (hC.2.2.2.2.1 j hj)) (cwV 1 hts gX6_soak_X6_slotOf rfl rfl rfl (by decide +kernel) ⟨Nat.le_of_ble_eq_true rfl, Nat.le_of_ble_eq_true rfl⟩) hw hA (hC.m (by decide)) hR.x rfl rfl hl.1 rfl (Nat.le_of_ble_eq_true rfl) dX6_soak_2 ⟨Nat.zero_le _, Nat.zero_le _⟩ (fun H locs hw => ?_)
  refine lv_astore (lv' := [(5, .ref (ad (34 + 2 * j))), (0, .ref (ad 0)), (1, .int (nI j)), (2, .int (nI k)), (3, .double u)]) hx hb dX6_soak_5 hl (by decide) rfl (fun ls hl => ?_)
  refine lv_aload_n hx hb dX6_soak_7 rfl (lv_at hl 1 rfl) ?_
  refine lv_iload_n hx hb dX6_soak_8 rfl (lv_at hl 3 rfl) ?_
  refine kV_V (C := RX6) (T := TX6) (N := 8) (As := [.int (nI k)]) (rest := []) ⟨hx, hb, hml, hown, hts⟩ (c_X6_requireLayer l G dA L f (ad 0) (ad 1) (ad 2) (ad 3) (ad 4) (ad 5) (ad 7) n hr k (hC.m (by decide)) hR.x hC.n31 hi) (cwV 1 hts gX6_soak_X6_requireLayer rfl rfl rfl (by decide +kernel) ⟨Nat.le_of_ble_eq_true rfl, Nat.le_of_ble_eq_true rfl⟩) hw hA (hC.m (by decide)) hR.x rfl rfl hl.1 rfl (Nat.le_of_ble_eq_true rfl) dX6_soak_9 ⟨Nat.zero_le _, Nat.zero_le _⟩ (fun f1 H locs hp hw => ?_)
  rw [hp] at hw
  refine lv_dload_n hx hb dX6_soak_12 rfl (lv_at hl 4 rfl) ?_
  refine lv_dconst0 hx hb dX6_soak_13 ?_
  refine lv_ldc2d (v := 4613937818241073152) hx hb hown (hts (.constantDouble RX6 80 (4613937818241073152)) (by decide +kernel)) dX6_soak_14 ?_
  refine kS_V (As := [.double u, .double FP.dconst0, .double 4613937818241073152]) (rest := []) ⟨hx, hb, hml, hown, hts⟩ (c_X6_requireWithin l G dA L f u FP.dconst0 4613937818241073152 h1) (va_cwS 3 hts gX6_soak_X6_requireWithin rfl rfl rfl (by decide +kernel) ⟨Nat.le_of_ble_eq_true rfl, Nat.le_of_ble_eq_true rfl⟩) hw hA rfl hl.1 rfl (Nat.le_of_ble_eq_true rfl) dX6_soak_17 ⟨Nat.zero_le _, Nat.zero_le _⟩ (fun f2 H locs hp hw => ?_)
  rw [hp] at hw
  refine lv_aload hx hb dX6_soak_20 (lv_at hl 0 rfl) ?_
  exact kX_S (As := [.ref (ad (34 + 2 * j))]) (rest := []) ⟨hx, hb, hml, hown, hts⟩ (x_X6_requireThere l hlt G dA sa L f (ad (34 + 2 * j)) (ad (35 + 2 * j)) (ad (12 + (bd j).2.2.2.2.2)) (bd j).1 (bd j).2.2.1 (bd j).2.2.2.2.1 (bd j).2.1 (bd j).2.2.2.1 (hC.mb hj) (hR.brd hj) hbad) (va_cwS 1 hts gX6_soak_X6_requireThere rfl rfl rfl (by decide +kernel) ⟨Nat.le_of_ble_eq_true rfl, Nat.le_of_ble_eq_true rfl⟩) hw hE hA rfl hl.1 rfl (Nat.le_of_ble_eq_true rfl) dX6_soak_22 ⟨Nat.le_of_ble_eq_true rfl, Nat.le_of_ble_eq_true rfl⟩ (fun ce q H locs hw hc hv hcl => mX_out hw ht hlocks hc hv hcl)

set_option maxHeartbeats 4000000 in
set_option maxRecDepth 100000 in
theorem c_X6_unit (l : Launch) (G : va_G) (dA : Nat → ClassId) (L : List Nat) (f : Nat → va_E) (ad : Nat → Nat) (n nb : Nat) (q qk : Nat → Option Nat) (ai : sA) (le : sL) (bd : Nat → sB) (wt : Nat → Nat → UInt64) (kk : Nat → UInt64 × UInt64) (tt : sT) (pn : sP) (hr : Nat) (f0 : Nat → va_E) (u : Int32)  (hC : Cx ad L n nb q qk) (hR : RC ad dA n nb q qk ai le bd wt kk tt pn hr f0 f) (htl : tt.1 ≤ 200)  : mI l yX6_unit wsX6_unit ({ frames := 1, cells := 0, slots := 0, locals := 21 }) G dA [.ref (ad 0), .int u] L f (fun r f2 => r = b2i (sp_app tt.1 u) ∧ RC ad dA n nb q qk ai le bd wt kk (if sp_app tt.1 u = true then (tt.1 + 1, upd tt.2 tt.1 u) else tt) pn hr f0 f2) := by
  refine mI_of (cc := cX6_unit) (maxL := 2) (by decide) rfl (Nat.le_of_ble_eq_true rfl) ?_
  intro p e s m below meth c A ls Q hx hb hml hown hts hlocks hA hin0 hw hl hret
  have hown : s.vm.findClass RX6 = some m.cls := hown
  have hl : lv_has ls 2 [(0, .ref (ad 0)), (1, .int u)] := hl
  have hi6 : ∀ w ∈ u_ws RX6 TX6 8, w ∈ wsX6_unit := by decide +kernel
  refine lv_aload_n hx hb dX6_unit_0 rfl (lv_at hl 0 rfl) ?_
  refine wg (C := RX6) (T := TX6) (N := 8) hx hb hts hi6 hown hw (hC.m (by decide)) hR.x rfl 5 (by decide) (hts (.fieldLink RX6 55 "LayerMoisture" "text" "LLayerMoisture$Text;") (by decide +kernel)) (fun _ h9 => h9) (v := .ref (ad 5)) rfl dX6_unit_1 ?_
  refine lv_iload_n hx hb dX6_unit_4 rfl (lv_at hl 1 rfl) ?_
  refine kV_I (C := RX5) (T := TX5) (N := 3) (As := [.int u]) (rest := []) ⟨hx, hb, hml, hown, hts⟩ (c_X5_append l G dA L f (ad 5) (ad 6) tt.1 0 tt.2 u (hC.m (by decide)) hR.txt (hC.m (by decide)) hR.chr htl (hC.ne (by omega) (by omega) (by omega)) (hC.ne (by omega) (by omega) (by omega))) (cwV 1 hts gX6_unit_X5_append rfl rfl rfl (by decide +kernel) ⟨Nat.le_of_ble_eq_true rfl, Nat.le_of_ble_eq_true rfl⟩) hw hA (hC.m (by decide)) hR.txt rfl rfl hl.1 rfl (Nat.le_of_ble_eq_true rfl) dX6_unit_5 ⟨Nat.zero_le _, Nat.zero_le _⟩ (fun r2 f1 H locs hp hw => ?_)
  obtain ⟨e1, e2⟩ := hp
  rw [e1]
  have hR3 : RC ad dA n nb q qk ai le bd wt kk (if sp_app tt.1 u = true then (tt.1 + 1, upd tt.2 tt.1 u) else tt) pn hr f0 f1 := by
    by_cases e9 : sp_app tt.1 u = true
    · rw [e2, if_pos e9, if_pos e9]; exact (hR.sChr hC _).sTxt hC _
    · rw [e2, if_neg e9, if_neg e9]; exact hR
  exact hret _ _ _ _ _ _ hw ⟨rfl, hR3⟩ (b2i_nar _) dX6_unit_8

set_option maxHeartbeats 4000000 in
set_option maxRecDepth 100000 in
theorem c_X6_schedule (l : Launch) (G : va_G) (dA : Nat → ClassId) (L : List Nat) (f : Nat → va_E) (ad : Nat → Nat) (n nb : Nat) (q qk : Nat → Option Nat) (ai : sA) (le : sL) (bd : Nat → sB) (wt : Nat → Nat → UInt64) (kk : Nat → UInt64 × UInt64) (tt : sT) (pn : sP) (hr : Nat) (f0 : Nat → va_E)   (hC : Cx ad L n nb q qk) (hR : RC ad dA n nb q qk ai le bd wt kk tt pn hr f0 f) (htl : tt.1 ≤ 200) (hok : TxOk tt.2 tt.1)  : mI l yX6_schedule wsX6_schedule ({ frames := 7, cells := 0, slots := 0, locals := 152 }) G dA [.ref (ad 0)] L f (fun r f2 => ∃ (B2 T2 K2 D2 : Nat → Int32) (st2 : Nat), RC ad dA n nb q qk ai le bd wt kk ((0, tt.2)) ((st2, 0, B2, T2, K2, D2)) hr f0 f2 ∧ (match stepsP tt.2 tt.1 12 true 0 with | .inl p => r = -1 - nI p ∧ st2 = 0 | .inr l => r = nI l.length ∧ st2 = l.length ∧ rowsAt B2 T2 K2 D2 0 l)) := by
  refine mI_of (cc := cX6_schedule) (maxL := 1) (by decide) rfl (Nat.le_of_ble_eq_true rfl) ?_
  intro p e s m below meth c A ls Q hx hb hml hown hts hlocks hA hin0 hw hl hret
  have hown : s.vm.findClass RX6 = some m.cls := hown
  have hl : lv_has ls 1 [(0, .ref (ad 0))] := hl
  have hi6 : ∀ w ∈ u_ws RX6 TX6 8, w ∈ wsX6_schedule := by decide +kernel
  have hnd : [ad 7, ad 8, ad 9, ad 10, ad 11, ad 5, ad 6].Nodup := by simp only [List.nodup_cons, List.mem_cons, not_or, List.not_mem_nil, not_false_eq_true, List.nodup_nil, and_true]; refine ⟨⟨?_, ?_, ?_, ?_, ?_, ?_⟩, ⟨?_, ?_, ?_, ?_, ?_⟩, ⟨?_, ?_, ?_, ?_⟩, ⟨?_, ?_, ?_⟩, ⟨?_, ?_⟩, ?_⟩ <;> exact hC.ne (by omega) (by omega) (by decide)
  refine lv_aload_n hx hb dX6_schedule_0 rfl (lv_at hl 0 rfl) ?_
  refine wg (C := RX6) (T := TX6) (N := 8) hx hb hts hi6 hown hw (hC.m (by decide)) hR.x rfl 6 (by decide) (hts (.fieldLink RX6 62 "LayerMoisture" "plan" "LLayerMoisture$Plan;") (by decide +kernel)) (fun _ h9 => h9) (v := .ref (ad 7)) rfl dX6_schedule_1 ?_
  refine lv_aload_n hx hb dX6_schedule_4 rfl (lv_at hl 0 rfl) ?_
  refine wg (C := RX6) (T := TX6) (N := 8) hx hb hts hi6 hown hw (hC.m (by decide)) hR.x rfl 5 (by decide) (hts (.fieldLink RX6 55 "LayerMoisture" "text" "LLayerMoisture$Text;") (by decide +kernel)) (fun _ h9 => h9) (v := .ref (ad 5)) rfl dX6_schedule_5 ?_
  refine kV_I (C := RX4) (T := TX4) (N := 6) (As := [.ref (ad 5)]) (rest := []) ⟨hx, hb, hml, hown, hts⟩ (c_X4_readFrom l G dA L f (ad 7) (ad 8) (ad 9) (ad 10) (ad 11) (ad 5) (ad 6) tt.1 0 (nI pn.1) (nI pn.2.1) pn.2.2.1 pn.2.2.2.1 pn.2.2.2.2.1 pn.2.2.2.2.2 tt.2 (hC.m (by decide)) hR.pln (hC.m (by decide)) hR.pB (hC.m (by decide)) hR.pT (hC.m (by decide)) hR.pK (hC.m (by decide)) hR.pD (hC.m (by decide)) hR.txt (hC.m (by decide)) hR.chr hnd htl (Nat.zero_le _) hok) (cwV 1 hts gX6_schedule_X4_readFrom rfl rfl rfl (by decide +kernel) ⟨Nat.le_of_ble_eq_true rfl, Nat.le_of_ble_eq_true rfl⟩) hw hA (hC.m (by decide)) hR.pln rfl rfl hl.1 rfl (Nat.le_of_ble_eq_true rfl) dX6_schedule_8 ⟨Nat.zero_le _, Nat.zero_le _⟩ (fun r2 f1 H locs hp hw => ?_)
  obtain ⟨B2, T2, K2, D2, p2, st2, e2, hm⟩ := hp
  have hR2 : RC ad dA n nb q qk ai le bd wt kk ((0, tt.2)) ((st2, 0, B2, T2, K2, D2)) hr f0 f1 := by
    rw [e2, pw, up_comm _ _ _ (hC.ne (i := 5) (j := 7) (by omega) (by omega) (by omega)), bx_uu]
    exact (((((hR.sPB hC _).sPT hC _).sPK hC _).sPD hC _).sPln hC _ _).sTxt hC _
  exact hret _ _ _ _ _ _ hw ⟨B2, T2, K2, D2, st2, hR2, hm⟩ rfl dX6_schedule_11

set_option maxHeartbeats 4000000 in
set_option maxRecDepth 100000 in
theorem x1_X6_run (l : Launch) (hlt : l.stackTraces = false) (G : va_G) (dA : Nat → ClassId) (sa : Nat → Nat) (L : List Nat) (f : Nat → va_E) (ad : Nat → Nat) (n nb : Nat) (q qk : Nat → Option Nat) (ai : sA) (le : sL) (bd : Nat → sB) (wt : Nat → Nat → UInt64) (kk : Nat → UInt64 × UInt64) (tt : sT) (pn : sP) (hr : Nat) (f0 : Nat → va_E) (i : Int32)  (hC : Cx ad L n nb q qk) (hR : RC ad dA n nb q qk ai le bd wt kk tt pn hr f0 f) (hbad : i < 0 ∨ 100 < i)  : mX l yX6_run wsX6_run ({ frames := 7, cells := 1, slots := 6, locals := 95 }) G dA [.ref (ad 0), .int i] L f sa 1 := by
  refine mX_of (cc := cX6_run) (maxL := 3) (by decide) rfl (Nat.le_of_ble_eq_true rfl) ?_
  intro p e s m below meth c A ls hx hb hml hown hts hlocks hA ht hE hw hl
  have hown : s.vm.findClass RX6 = some m.cls := hown
  have hl : lv_has ls 3 [(0, .ref (ad 0)), (1, .int i)] := hl
  refine lv_iload_n hx hb dX6_run_0 rfl (lv_at hl 1 rfl) ?_
  refine lv_if_lt (tgt := 10) hx hb dX6_run_1 (by decide) (fun c1 => ?_) (fun c1 => ?_)
  · exact mX_throw (k := 1) (is := 133) (text := "hours are not 0 .. 100") hx hb hlt (by decide) hown hE hw ht (List.mem_of_getElem? (i := 0) (by decide)) (by rw [hml]; exact hl.1) dX6_run_10 dX6_run_13 dX6_run_14 dX6_run_16 dX6_run_19 (by decide) (Nat.le_of_ble_eq_true rfl) (by decide) (by decide) hlocks
  · refine lv_iload_n hx hb dX6_run_4 rfl (lv_at hl 1 rfl) ?_
    refine lv_bipush (v := 100) hx hb dX6_run_5 (by decide) ?_
    refine lv_icmp_le (tgt := 20) hx hb dX6_run_7 (by decide) (fun c9 => absurd c9 (fun h7 => hbad.elim c1 (fun h8 => absurd h7 (Int32.not_le.mpr h8)))) (fun _ => ?_)
    exact mX_throw (k := 1) (is := 133) (text := "hours are not 0 .. 100") hx hb hlt (by decide) hown hE hw ht (List.mem_of_getElem? (i := 0) (by decide)) (by rw [hml]; exact hl.1) dX6_run_10 dX6_run_13 dX6_run_14 dX6_run_16 dX6_run_19 (by decide) (Nat.le_of_ble_eq_true rfl) (by decide) (by decide) hlocks

set_option maxHeartbeats 4000000 in
set_option maxRecDepth 100000 in
theorem c_X6_limit (l : Launch) (G : va_G) (dA : Nat → ClassId) (L : List Nat) (f : Nat → va_E) (ad : Nat → Nat) (n nb : Nat) (q qk : Nat → Option Nat) (ai : sA) (le : sL) (bd : Nat → sB) (wt : Nat → Nat → UInt64) (kk : Nat → UInt64 × UInt64) (tt : sT) (pn : sP) (hr : Nat) (f0 : Nat → va_E) (j : Nat) (u : UInt64)  (hC : Cx ad L n nb q qk) (hR : RC ad dA n nb q qk ai le bd wt kk tt pn hr f0 f) (hj : j < nb) (h1 : FP.dcmp u FP.dconst0 = some .gt ∨ FP.dcmp u FP.dconst0 = some .eq) (hth : ¬ (bd j).1 = 0)  : mV l yX6_limit wsX6_limit ({ frames := 1, cells := 0, slots := 0, locals := 22 }) G dA [.ref (ad 0), .int (nI j), .double u] L f (fun f2 => RC ad dA n nb q qk ai le (va_up bd j ((bd j).1, (bd j).2.1, 1, u, -1, (bd j).2.2.2.2.2)) wt kk tt pn hr f0 f2) := by
  refine mV_of (cc := cX6_limit) (maxL := 5) (by decide) rfl (Nat.le_of_ble_eq_true rfl) ?_
  intro p e s m below meth c A ls Q hx hb hml hown hts hlocks hA hin0 hw hl hret
  have hown : s.vm.findClass RX6 = some m.cls := hown
  have hl : lv_has ls 5 [(0, .ref (ad 0)), (1, .int (nI j)), (2, .double u)] := hl
  refine lv_aload_n hx hb dX6_limit_0 rfl (lv_at hl 0 rfl) ?_
  refine lv_iload_n hx hb dX6_limit_1 rfl (lv_at hl 1 rfl) ?_
  refine kV_R (C := RX6) (T := TX6) (N := 8) (As := [.int (nI j)]) (rest := []) ⟨hx, hb, hml, hown, hts⟩ (c_X6_slotOf l G dA L f (ad 0) (ad 1) (ad 2) (ad 3) (ad 4) (ad 5) (ad 7) n hr nb j (ad (34 + 2 * j)) q (hC.m (by decide)) hR.x (hC.m (by decide)) hR.bs hC.nb31 hj (hC.2.2.2.2.1 j hj)) (cwV 1 hts gX6_limit_X6_slotOf rfl rfl rfl (by decide +kernel) ⟨Nat.le_of_ble_eq_true rfl, Nat.le_of_ble_eq_true rfl⟩) hw hA (hC.m (by decide)) hR.x rfl rfl hl.1 rfl (Nat.le_of_ble_eq_true rfl) dX6_limit_2 ⟨Nat.zero_le _, Nat.zero_le _⟩ (fun H locs hw => ?_)
  refine lv_astore (lv' := [(4, .ref (ad (34 + 2 * j))), (0, .ref (ad 0)), (1, .int (nI j)), (2, .double u)]) hx hb dX6_limit_5 hl (by decide) rfl (fun ls hl => ?_)
  refine lv_dload_n hx hb dX6_limit_7 rfl (lv_at hl 3 rfl) ?_
  refine lv_dconst0 hx hb dX6_limit_8 ?_
  refine lv_dcmp hx hb dX6_limit_9 ?_
  refine lv_if_ge (tgt := 23) hx hb dX6_limit_10 (by decide) (fun _ => ?_) (fun c9 => absurd (Classical.byContradiction fun h7 => cmp_nlge h7 h1) c9)
  refine lv_aload hx hb dX6_limit_23 (lv_at hl 0 rfl) ?_
  refine kS_V (As := [.ref (ad (34 + 2 * j))]) (rest := []) ⟨hx, hb, hml, hown, hts⟩ (c_X6_requireThere l G dA L f (ad (34 + 2 * j)) (ad (35 + 2 * j)) (ad (12 + (bd j).2.2.2.2.2)) (bd j).1 (bd j).2.2.1 (bd j).2.2.2.2.1 (bd j).2.1 (bd j).2.2.2.1 (hC.mb hj) (hR.brd hj) hth) (va_cwS 1 hts gX6_limit_X6_requireThere rfl rfl rfl (by decide +kernel) ⟨Nat.le_of_ble_eq_true rfl, Nat.le_of_ble_eq_true rfl⟩) hw hA rfl hl.1 rfl (Nat.le_of_ble_eq_true rfl) dX6_limit_25 ⟨Nat.zero_le _, Nat.zero_le _⟩ (fun f1 H locs hp hw => ?_)
  rw [hp] at hw
  refine lv_aload hx hb dX6_limit_28 (lv_at hl 0 rfl) ?_
  refine lv_dload_n hx hb dX6_limit_30 rfl (lv_at hl 3 rfl) ?_
  refine kV_V (C := RX1) (T := TX1) (N := 7) (As := [.double u]) (rest := []) ⟨hx, hb, hml, hown, hts⟩ (c_X1_setLimit l G dA L f (ad (34 + 2 * j)) (ad (35 + 2 * j)) (ad (12 + (bd j).2.2.2.2.2)) (bd j).1 (bd j).2.2.1 (bd j).2.2.2.2.1 (bd j).2.1 (bd j).2.2.2.1 u (hC.mb hj) (hR.brd hj)) (cwV 1 hts gX6_limit_X1_setLimit rfl rfl rfl (by decide +kernel) ⟨Nat.le_of_ble_eq_true rfl, Nat.le_of_ble_eq_true rfl⟩) hw hA (hC.mb hj) (hR.brd hj) rfl rfl hl.1 rfl (Nat.le_of_ble_eq_true rfl) dX6_limit_31 ⟨Nat.zero_le _, Nat.zero_le _⟩ (fun f2 H locs hp hw => ?_)
  have hR4 : RC ad dA n nb q qk ai le (va_up bd j ((bd j).1, (bd j).2.1, 1, u, -1, (bd j).2.2.2.2.2)) wt kk tt pn hr f0 f2 := by rw [hp]; exact hR.sBrd hC hj ((bd j).1, (bd j).2.1, 1, u, -1, (bd j).2.2.2.2.2)
  exact hret _ _ _ _ _ hw hR4 dX6_limit_34

set_option maxHeartbeats 4000000 in
set_option maxRecDepth 100000 in
theorem x1_X6_limit (l : Launch) (hlt : l.stackTraces = false) (G : va_G) (dA : Nat → ClassId) (sa : Nat → Nat) (L : List Nat) (f : Nat → va_E) (ad : Nat → Nat) (n nb : Nat) (q qk : Nat → Option Nat) (ai : sA) (le : sL) (bd : Nat → sB) (wt : Nat → Nat → UInt64) (kk : Nat → UInt64 × UInt64) (tt : sT) (pn : sP) (hr : Nat) (f0 : Nat → va_E) (i : Int32) (u : UInt64)  (hC : Cx ad L n nb q qk) (hR : RC ad dA n nb q qk ai le bd wt kk tt pn hr f0 f) (hbad : i < 0 ∨ nI nb ≤ i)  : mX l yX6_limit wsX6_limit ({ frames := 8, cells := 1, slots := 6, locals := 116 }) G dA [.ref (ad 0), .int i, .double u] L f sa 0 := by
  refine mX_of (cc := cX6_limit) (maxL := 5) (by decide) rfl (Nat.le_of_ble_eq_true rfl) ?_
  intro p e s m below meth c A ls hx hb hml hown hts hlocks hA ht hE hw hl
  have hown : s.vm.findClass RX6 = some m.cls := hown
  have hl : lv_has ls 5 [(0, .ref (ad 0)), (1, .int i), (2, .double u)] := hl
  refine lv_aload_n hx hb dX6_limit_0 rfl (lv_at hl 0 rfl) ?_
  refine lv_iload_n hx hb dX6_limit_1 rfl (lv_at hl 1 rfl) ?_
  exact kX_V (C := RX6) (T := TX6) (N := 8) (As := [.int i]) (rest := []) ⟨hx, hb, hml, hown, hts⟩ (x_X6_slotOf l hlt G dA sa L f (ad 0) (ad 1) (ad 2) (ad 3) (ad 4) (ad 5) (ad 7) n hr nb q i (hC.m (by decide)) hR.x (hC.m (by decide)) hR.bs hC.nb31 hbad) (cwV 1 hts gX6_limit_X6_slotOf rfl rfl rfl (by decide +kernel) ⟨Nat.le_of_ble_eq_true rfl, Nat.le_of_ble_eq_true rfl⟩) hw hE hA (hC.m (by decide)) hR.x rfl rfl hl.1 rfl (Nat.le_of_ble_eq_true rfl) dX6_limit_2 ⟨Nat.le_of_ble_eq_true rfl, Nat.le_of_ble_eq_true rfl⟩ (fun ce q H locs hw hc hv hcl => mX_out hw ht hlocks hc hv hcl)

set_option maxHeartbeats 4000000 in
set_option maxRecDepth 100000 in
theorem x2_X6_limit (l : Launch) (hlt : l.stackTraces = false) (G : va_G) (dA : Nat → ClassId) (sa : Nat → Nat) (L : List Nat) (f : Nat → va_E) (ad : Nat → Nat) (n nb : Nat) (q qk : Nat → Option Nat) (ai : sA) (le : sL) (bd : Nat → sB) (wt : Nat → Nat → UInt64) (kk : Nat → UInt64 × UInt64) (tt : sT) (pn : sP) (hr : Nat) (f0 : Nat → va_E) (j : Nat) (u : UInt64)  (hC : Cx ad L n nb q qk) (hR : RC ad dA n nb q qk ai le bd wt kk tt pn hr f0 f) (hj : j < nb) (hbad : ¬ (FP.dcmp u FP.dconst0 = some .gt ∨ FP.dcmp u FP.dconst0 = some .eq))  : mX l yX6_limit wsX6_limit ({ frames := 7, cells := 1, slots := 6, locals := 95 }) G dA [.ref (ad 0), .int (nI j), .double u] L f sa 1 := by
  refine mX_of (cc := cX6_limit) (maxL := 5) (by decide) rfl (Nat.le_of_ble_eq_true rfl) ?_
  intro p e s m below meth c A ls hx hb hml hown hts hlocks hA ht hE hw hl
  have hown : s.vm.findClass RX6 = some m.cls := hown
  have hl : lv_has ls 5 [(0, .ref (ad 0)), (1, .int (nI j)), (2, .double u)] := hl
  refine lv_aload_n hx hb dX6_limit_0 rfl (lv_at hl 0 rfl) ?_
  refine lv_iload_n hx hb dX6_limit_1 rfl (lv_at hl 1 rfl) ?_
  refine kV_R (C := RX6) (T := TX6) (N := 8) (As := [.int (nI j)]) (rest := []) ⟨hx, hb, hml, hown, hts⟩ (c_X6_slotOf l G dA L f (ad 0) (ad 1) (ad 2) (ad 3) (ad 4) (ad 5) (ad 7) n hr nb j (ad (34 + 2 * j)) q (hC.m (by decide)) hR.x (hC.m (by decide)) hR.bs hC.nb31 hj (hC.2.2.2.2.1 j hj)) (cwV 1 hts gX6_limit_X6_slotOf rfl rfl rfl (by decide +kernel) ⟨Nat.le_of_ble_eq_true rfl, Nat.le_of_ble_eq_true rfl⟩) hw hA (hC.m (by decide)) hR.x rfl rfl hl.1 rfl (Nat.le_of_ble_eq_true rfl) dX6_limit_2 ⟨Nat.zero_le _, Nat.zero_le _⟩ (fun H locs hw => ?_)
  refine lv_astore (lv' := [(4, .ref (ad (34 + 2 * j))), (0, .ref (ad 0)), (1, .int (nI j)), (2, .double u)]) hx hb dX6_limit_5 hl (by decide) rfl (fun ls hl => ?_)
  refine lv_dload_n hx hb dX6_limit_7 rfl (lv_at hl 3 rfl) ?_
  refine lv_dconst0 hx hb dX6_limit_8 ?_
  refine lv_dcmp hx hb dX6_limit_9 ?_
  refine lv_if_ge (tgt := 23) hx hb dX6_limit_10 (by decide) (fun c9 => absurd c9 (fun h7 => hbad (cmp_lge h7))) (fun _ => ?_)
  exact mX_throw (k := 1) (is := 148) (text := "the load is not 0 or more") hx hb hlt (by decide) hown hE hw ht (List.mem_of_getElem? (i := 1) (by decide)) (by rw [hml]; exact hl.1) dX6_limit_13 dX6_limit_16 dX6_limit_17 dX6_limit_19 dX6_limit_22 (by decide) (Nat.le_of_ble_eq_true rfl) (by decide) (by decide) hlocks

set_option maxHeartbeats 4000000 in
set_option maxRecDepth 100000 in
theorem x3_X6_limit (l : Launch) (hlt : l.stackTraces = false) (G : va_G) (dA : Nat → ClassId) (sa : Nat → Nat) (L : List Nat) (f : Nat → va_E) (ad : Nat → Nat) (n nb : Nat) (q qk : Nat → Option Nat) (ai : sA) (le : sL) (bd : Nat → sB) (wt : Nat → Nat → UInt64) (kk : Nat → UInt64 × UInt64) (tt : sT) (pn : sP) (hr : Nat) (f0 : Nat → va_E) (j : Nat) (u : UInt64)  (hC : Cx ad L n nb q qk) (hR : RC ad dA n nb q qk ai le bd wt kk tt pn hr f0 f) (hj : j < nb) (h1 : FP.dcmp u FP.dconst0 = some .gt ∨ FP.dcmp u FP.dconst0 = some .eq) (hbad : (bd j).1 = 0)  : mX l yX6_limit wsX6_limit ({ frames := 8, cells := 1, slots := 6, locals := 115 }) G dA [.ref (ad 0), .int (nI j), .double u] L f sa 2 := by
  refine mX_of (cc := cX6_limit) (maxL := 5) (by decide) rfl (Nat.le_of_ble_eq_true rfl) ?_
  intro p e s m below meth c A ls hx hb hml hown hts hlocks hA ht hE hw hl
  have hown : s.vm.findClass RX6 = some m.cls := hown
  have hl : lv_has ls 5 [(0, .ref (ad 0)), (1, .int (nI j)), (2, .double u)] := hl
  refine lv_aload_n hx hb dX6_limit_0 rfl (lv_at hl 0 rfl) ?_
  refine lv_iload_n hx hb dX6_limit_1 rfl (lv_at hl 1 rfl) ?_
  refine kV_R (C := RX6) (T := TX6) (N := 8) (As := [.int (nI j)]) (rest := []) ⟨hx, hb, hml, hown, hts⟩ (c_X6_slotOf l G dA L f (ad 0) (ad 1) (ad 2) (ad 3) (ad 4) (ad 5) (ad 7) n hr nb j (ad (34 + 2 * j)) q (hC.m (by decide)) hR.x (hC.m (by decide)) hR.bs hC.nb31 hj (hC.2.2.2.2.1 j hj)) (cwV 1 hts gX6_limit_X6_slotOf rfl rfl rfl (by decide +kernel) ⟨Nat.le_of_ble_eq_true rfl, Nat.le_of_ble_eq_true rfl⟩) hw hA (hC.m (by decide)) hR.x rfl rfl hl.1 rfl (Nat.le_of_ble_eq_true rfl) dX6_limit_2 ⟨Nat.zero_le _, Nat.zero_le _⟩ (fun H locs hw => ?_)
  refine lv_astore (lv' := [(4, .ref (ad (34 + 2 * j))), (0, .ref (ad 0)), (1, .int (nI j)), (2, .double u)]) hx hb dX6_limit_5 hl (by decide) rfl (fun ls hl => ?_)
  refine lv_dload_n hx hb dX6_limit_7 rfl (lv_at hl 3 rfl) ?_
  refine lv_dconst0 hx hb dX6_limit_8 ?_
  refine lv_dcmp hx hb dX6_limit_9 ?_
  refine lv_if_ge (tgt := 23) hx hb dX6_limit_10 (by decide) (fun _ => ?_) (fun c9 => absurd (Classical.byContradiction fun h7 => cmp_nlge h7 h1) c9)
  refine lv_aload hx hb dX6_limit_23 (lv_at hl 0 rfl) ?_
  exact kX_S (As := [.ref (ad (34 + 2 * j))]) (rest := []) ⟨hx, hb, hml, hown, hts⟩ (x_X6_requireThere l hlt G dA sa L f (ad (34 + 2 * j)) (ad (35 + 2 * j)) (ad (12 + (bd j).2.2.2.2.2)) (bd j).1 (bd j).2.2.1 (bd j).2.2.2.2.1 (bd j).2.1 (bd j).2.2.2.1 (hC.mb hj) (hR.brd hj) hbad) (va_cwS 1 hts gX6_limit_X6_requireThere rfl rfl rfl (by decide +kernel) ⟨Nat.le_of_ble_eq_true rfl, Nat.le_of_ble_eq_true rfl⟩) hw hE hA rfl hl.1 rfl (Nat.le_of_ble_eq_true rfl) dX6_limit_25 ⟨Nat.le_of_ble_eq_true rfl, Nat.le_of_ble_eq_true rfl⟩ (fun ce q H locs hw hc hv hcl => mX_out hw ht hlocks hc hv hcl)

set_option maxHeartbeats 4000000 in
set_option maxRecDepth 100000 in
theorem c_X6_check (l : Launch) (G : va_G) (dA : Nat → ClassId) (L : List Nat) (f : Nat → va_E) (ad : Nat → Nat) (n nb : Nat) (q qk : Nat → Option Nat) (ai : sA) (le : sL) (bd : Nat → sB) (wt : Nat → Nat → UInt64) (kk : Nat → UInt64 × UInt64) (tt : sT) (pn : sP) (hr : Nat) (f0 : Nat → va_E) (j : Nat)  (hC : Cx ad L n nb q qk) (hR : RC ad dA n nb q qk ai le bd wt kk tt pn hr f0 f) (hj : j < nb) (hth : ¬ (bd j).1 = 0)  : mI l yX6_check wsX6_check ({ frames := 2, cells := 0, slots := 0, locals := 43 }) G dA [.ref (ad 0), .int (nI j)] L f (fun r f2 => r = (bd j).2.2.2.2.1 ∧ f2 = f) := by
  refine mI_of (cc := cX6_check) (maxL := 2) (by decide) rfl (Nat.le_of_ble_eq_true rfl) ?_
  intro p e s m below meth c A ls Q hx hb hml hown hts hlocks hA hin0 hw hl hret
  have hown : s.vm.findClass RX6 = some m.cls := hown
  have hl : lv_has ls 2 [(0, .ref (ad 0)), (1, .int (nI j))] := hl
  have hi1 : ∀ w ∈ u_ws RX1 TX1 7, w ∈ wsX6_check := by decide +kernel
  refine lv_aload_n hx hb dX6_check_0 rfl (lv_at hl 0 rfl) ?_
  refine lv_iload_n hx hb dX6_check_1 rfl (lv_at hl 1 rfl) ?_
  refine kV_R (C := RX6) (T := TX6) (N := 8) (As := [.int (nI j)]) (rest := []) ⟨hx, hb, hml, hown, hts⟩ (c_X6_boardThere l G dA L f ad n nb q qk ai le bd wt kk tt pn hr f0 j hC hR hj hth) (cwV 1 hts gX6_check_X6_boardThere rfl rfl rfl (by decide +kernel) ⟨Nat.le_of_ble_eq_true rfl, Nat.le_of_ble_eq_true rfl⟩) hw hA (hC.m (by decide)) hR.x rfl rfl hl.1 rfl (Nat.le_of_ble_eq_true rfl) dX6_check_2 ⟨Nat.zero_le _, Nat.zero_le _⟩ (fun H locs hw => ?_)
  refine wg (C := RX1) (T := TX1) (N := 7) hx hb hts hi1 hown hw (hC.mb hj) (hR.brd hj) rfl 6 (by decide) (hts (.fieldLink RX6 157 "LayerMoisture$Board" "keptHour" "I") (by decide +kernel)) (fun _ h9 => h9) (v := .int ((bd j).2.2.2.2.1)) rfl dX6_check_5 ?_
  exact hret _ _ _ _ _ _ hw ⟨rfl, rfl⟩ rfl dX6_check_8

set_option maxHeartbeats 4000000 in
set_option maxRecDepth 100000 in
theorem x1_X6_check (l : Launch) (hlt : l.stackTraces = false) (G : va_G) (dA : Nat → ClassId) (sa : Nat → Nat) (L : List Nat) (f : Nat → va_E) (ad : Nat → Nat) (n nb : Nat) (q qk : Nat → Option Nat) (ai : sA) (le : sL) (bd : Nat → sB) (wt : Nat → Nat → UInt64) (kk : Nat → UInt64 × UInt64) (tt : sT) (pn : sP) (hr : Nat) (f0 : Nat → va_E) (i : Int32)  (hC : Cx ad L n nb q qk) (hR : RC ad dA n nb q qk ai le bd wt kk tt pn hr f0 f) (hbad : i < 0 ∨ nI nb ≤ i)  : mX l yX6_check wsX6_check ({ frames := 9, cells := 1, slots := 6, locals := 138 }) G dA [.ref (ad 0), .int i] L f sa 0 := by
  refine mX_of (cc := cX6_check) (maxL := 2) (by decide) rfl (Nat.le_of_ble_eq_true rfl) ?_
  intro p e s m below meth c A ls hx hb hml hown hts hlocks hA ht hE hw hl
  have hown : s.vm.findClass RX6 = some m.cls := hown
  have hl : lv_has ls 2 [(0, .ref (ad 0)), (1, .int i)] := hl
  refine lv_aload_n hx hb dX6_check_0 rfl (lv_at hl 0 rfl) ?_
  refine lv_iload_n hx hb dX6_check_1 rfl (lv_at hl 1 rfl) ?_
  exact kX_V (C := RX6) (T := TX6) (N := 8) (As := [.int i]) (rest := []) ⟨hx, hb, hml, hown, hts⟩ (x0_X6_boardThere l hlt G dA sa L f ad n nb q qk ai le bd wt kk tt pn hr f0 i hC hR hbad) (cwV 1 hts gX6_check_X6_boardThere rfl rfl rfl (by decide +kernel) ⟨Nat.le_of_ble_eq_true rfl, Nat.le_of_ble_eq_true rfl⟩) hw hE hA (hC.m (by decide)) hR.x rfl rfl hl.1 rfl (Nat.le_of_ble_eq_true rfl) dX6_check_2 ⟨Nat.le_of_ble_eq_true rfl, Nat.le_of_ble_eq_true rfl⟩ (fun ce q H locs hw hc hv hcl => mX_out hw ht hlocks hc hv hcl)

set_option maxHeartbeats 4000000 in
set_option maxRecDepth 100000 in
theorem x2_X6_check (l : Launch) (hlt : l.stackTraces = false) (G : va_G) (dA : Nat → ClassId) (sa : Nat → Nat) (L : List Nat) (f : Nat → va_E) (ad : Nat → Nat) (n nb : Nat) (q qk : Nat → Option Nat) (ai : sA) (le : sL) (bd : Nat → sB) (wt : Nat → Nat → UInt64) (kk : Nat → UInt64 × UInt64) (tt : sT) (pn : sP) (hr : Nat) (f0 : Nat → va_E) (j : Nat)  (hC : Cx ad L n nb q qk) (hR : RC ad dA n nb q qk ai le bd wt kk tt pn hr f0 f) (hj : j < nb) (hbad : (bd j).1 = 0)  : mX l yX6_check wsX6_check ({ frames := 9, cells := 1, slots := 6, locals := 137 }) G dA [.ref (ad 0), .int (nI j)] L f sa 2 := by
  refine mX_of (cc := cX6_check) (maxL := 2) (by decide) rfl (Nat.le_of_ble_eq_true rfl) ?_
  intro p e s m below meth c A ls hx hb hml hown hts hlocks hA ht hE hw hl
  have hown : s.vm.findClass RX6 = some m.cls := hown
  have hl : lv_has ls 2 [(0, .ref (ad 0)), (1, .int (nI j))] := hl
  refine lv_aload_n hx hb dX6_check_0 rfl (lv_at hl 0 rfl) ?_
  refine lv_iload_n hx hb dX6_check_1 rfl (lv_at hl 1 rfl) ?_
  exact kX_V (C := RX6) (T := TX6) (N := 8) (As := [.int (nI j)]) (rest := []) ⟨hx, hb, hml, hown, hts⟩ (x2_X6_boardThere l hlt G dA sa L f ad n nb q qk ai le bd wt kk tt pn hr f0 j hC hR hj hbad) (cwV 1 hts gX6_check_X6_boardThere rfl rfl rfl (by decide +kernel) ⟨Nat.le_of_ble_eq_true rfl, Nat.le_of_ble_eq_true rfl⟩) hw hE hA (hC.m (by decide)) hR.x rfl rfl hl.1 rfl (Nat.le_of_ble_eq_true rfl) dX6_check_2 ⟨Nat.le_of_ble_eq_true rfl, Nat.le_of_ble_eq_true rfl⟩ (fun ce q H locs hw hc hv hcl => mX_out hw ht hlocks hc hv hcl)

set_option maxHeartbeats 4000000 in
set_option maxRecDepth 100000 in
theorem c_X6_mean (l : Launch) (G : va_G) (dA : Nat → ClassId) (L : List Nat) (f : Nat → va_E) (ad : Nat → Nat) (n nb : Nat) (q qk : Nat → Option Nat) (ai : sA) (le : sL) (bd : Nat → sB) (wt : Nat → Nat → UInt64) (kk : Nat → UInt64 × UInt64) (tt : sT) (pn : sP) (hr : Nat) (f0 : Nat → va_E) (j : Nat)  (hC : Cx ad L n nb q qk) (hR : RC ad dA n nb q qk ai le bd wt kk tt pn hr f0 f) (hj : j < nb) (hth : ¬ (bd j).1 = 0) (hg : ∀ i, i < n → Np (2 ^ 1076) (wt j i))  : mD l yX6_mean wsX6_mean ({ frames := 2, cells := 0, slots := 0, locals := 43 }) G dA [.ref (ad 0), .int (nI j)] L f (fun r f2 => r = sp_mean (wt j) n ∧ f2 = f) := by
  refine mD_of (cc := cX6_mean) (maxL := 2) (by decide) rfl (Nat.le_of_ble_eq_true rfl) ?_
  intro p e s m below meth c A ls Q hx hb hml hown hts hlocks hA hin0 hw hl hret
  have hown : s.vm.findClass RX6 = some m.cls := hown
  have hl : lv_has ls 2 [(0, .ref (ad 0)), (1, .int (nI j))] := hl
  refine lv_aload_n hx hb dX6_mean_0 rfl (lv_at hl 0 rfl) ?_
  refine lv_iload_n hx hb dX6_mean_1 rfl (lv_at hl 1 rfl) ?_
  refine kV_R (C := RX6) (T := TX6) (N := 8) (As := [.int (nI j)]) (rest := []) ⟨hx, hb, hml, hown, hts⟩ (c_X6_boardThere l G dA L f ad n nb q qk ai le bd wt kk tt pn hr f0 j hC hR hj hth) (cwV 1 hts gX6_mean_X6_boardThere rfl rfl rfl (by decide +kernel) ⟨Nat.le_of_ble_eq_true rfl, Nat.le_of_ble_eq_true rfl⟩) hw hA (hC.m (by decide)) hR.x rfl rfl hl.1 rfl (Nat.le_of_ble_eq_true rfl) dX6_mean_2 ⟨Nat.zero_le _, Nat.zero_le _⟩ (fun H locs hw => ?_)
  refine kV_D (C := RX1) (T := TX1) (N := 7) (As := []) (rest := []) ⟨hx, hb, hml, hown, hts⟩ (d_mean l G dA L f (ad (34 + 2 * j)) (ad (35 + 2 * j)) (ad (12 + (bd j).2.2.2.2.2)) (bd j).1 (bd j).2.2.1 (bd j).2.2.2.2.1 (bd j).2.1 (bd j).2.2.2.1 n (wt j) (hC.mb hj) (hR.brd hj) (hC.mw hj) (hR.wet hj) hC.2.2.1.1 hC.2.2.1.2 hg) (cwV 0 hts gX6_mean_X1_meanWetness rfl rfl rfl (by decide +kernel) ⟨Nat.le_of_ble_eq_true rfl, Nat.le_of_ble_eq_true rfl⟩) hw hA (hC.mb hj) (hR.brd hj) rfl rfl hl.1 rfl (Nat.le_of_ble_eq_true rfl) dX6_mean_5 ⟨Nat.zero_le _, Nat.zero_le _⟩ (fun r2 f1 H locs hp hw => ?_)
  obtain ⟨e1, e2⟩ := hp
  rw [e2] at hw
  rw [e1]
  exact hret _ _ _ _ _ _ hw ⟨rfl, rfl⟩ dX6_mean_8

set_option maxHeartbeats 4000000 in
set_option maxRecDepth 100000 in
theorem x1_X6_mean (l : Launch) (hlt : l.stackTraces = false) (G : va_G) (dA : Nat → ClassId) (sa : Nat → Nat) (L : List Nat) (f : Nat → va_E) (ad : Nat → Nat) (n nb : Nat) (q qk : Nat → Option Nat) (ai : sA) (le : sL) (bd : Nat → sB) (wt : Nat → Nat → UInt64) (kk : Nat → UInt64 × UInt64) (tt : sT) (pn : sP) (hr : Nat) (f0 : Nat → va_E) (i : Int32)  (hC : Cx ad L n nb q qk) (hR : RC ad dA n nb q qk ai le bd wt kk tt pn hr f0 f) (hbad : i < 0 ∨ nI nb ≤ i)  : mX l yX6_mean wsX6_mean ({ frames := 9, cells := 1, slots := 6, locals := 138 }) G dA [.ref (ad 0), .int i] L f sa 0 := by
  refine mX_of (cc := cX6_mean) (maxL := 2) (by decide) rfl (Nat.le_of_ble_eq_true rfl) ?_
  intro p e s m below meth c A ls hx hb hml hown hts hlocks hA ht hE hw hl
  have hown : s.vm.findClass RX6 = some m.cls := hown
  have hl : lv_has ls 2 [(0, .ref (ad 0)), (1, .int i)] := hl
  refine lv_aload_n hx hb dX6_mean_0 rfl (lv_at hl 0 rfl) ?_
  refine lv_iload_n hx hb dX6_mean_1 rfl (lv_at hl 1 rfl) ?_
  exact kX_V (C := RX6) (T := TX6) (N := 8) (As := [.int i]) (rest := []) ⟨hx, hb, hml, hown, hts⟩ (x0_X6_boardThere l hlt G dA sa L f ad n nb q qk ai le bd wt kk tt pn hr f0 i hC hR hbad) (cwV 1 hts gX6_mean_X6_boardThere rfl rfl rfl (by decide +kernel) ⟨Nat.le_of_ble_eq_true rfl, Nat.le_of_ble_eq_true rfl⟩) hw hE hA (hC.m (by decide)) hR.x rfl rfl hl.1 rfl (Nat.le_of_ble_eq_true rfl) dX6_mean_2 ⟨Nat.le_of_ble_eq_true rfl, Nat.le_of_ble_eq_true rfl⟩ (fun ce q H locs hw hc hv hcl => mX_out hw ht hlocks hc hv hcl)

set_option maxHeartbeats 4000000 in
set_option maxRecDepth 100000 in
theorem x2_X6_mean (l : Launch) (hlt : l.stackTraces = false) (G : va_G) (dA : Nat → ClassId) (sa : Nat → Nat) (L : List Nat) (f : Nat → va_E) (ad : Nat → Nat) (n nb : Nat) (q qk : Nat → Option Nat) (ai : sA) (le : sL) (bd : Nat → sB) (wt : Nat → Nat → UInt64) (kk : Nat → UInt64 × UInt64) (tt : sT) (pn : sP) (hr : Nat) (f0 : Nat → va_E) (j : Nat)  (hC : Cx ad L n nb q qk) (hR : RC ad dA n nb q qk ai le bd wt kk tt pn hr f0 f) (hj : j < nb) (hbad : (bd j).1 = 0)  : mX l yX6_mean wsX6_mean ({ frames := 9, cells := 1, slots := 6, locals := 137 }) G dA [.ref (ad 0), .int (nI j)] L f sa 2 := by
  refine mX_of (cc := cX6_mean) (maxL := 2) (by decide) rfl (Nat.le_of_ble_eq_true rfl) ?_
  intro p e s m below meth c A ls hx hb hml hown hts hlocks hA ht hE hw hl
  have hown : s.vm.findClass RX6 = some m.cls := hown
  have hl : lv_has ls 2 [(0, .ref (ad 0)), (1, .int (nI j))] := hl
  refine lv_aload_n hx hb dX6_mean_0 rfl (lv_at hl 0 rfl) ?_
  refine lv_iload_n hx hb dX6_mean_1 rfl (lv_at hl 1 rfl) ?_
  exact kX_V (C := RX6) (T := TX6) (N := 8) (As := [.int (nI j)]) (rest := []) ⟨hx, hb, hml, hown, hts⟩ (x2_X6_boardThere l hlt G dA sa L f ad n nb q qk ai le bd wt kk tt pn hr f0 j hC hR hj hbad) (cwV 1 hts gX6_mean_X6_boardThere rfl rfl rfl (by decide +kernel) ⟨Nat.le_of_ble_eq_true rfl, Nat.le_of_ble_eq_true rfl⟩) hw hE hA (hC.m (by decide)) hR.x rfl rfl hl.1 rfl (Nat.le_of_ble_eq_true rfl) dX6_mean_2 ⟨Nat.le_of_ble_eq_true rfl, Nat.le_of_ble_eq_true rfl⟩ (fun ce q H locs hw hc hv hcl => mX_out hw ht hlocks hc hv hcl)

set_option maxHeartbeats 4000000 in
set_option maxRecDepth 100000 in
theorem c_X6_wet (l : Launch) (G : va_G) (dA : Nat → ClassId) (L : List Nat) (f : Nat → va_E) (ad : Nat → Nat) (n nb : Nat) (q qk : Nat → Option Nat) (ai : sA) (le : sL) (bd : Nat → sB) (wt : Nat → Nat → UInt64) (kk : Nat → UInt64 × UInt64) (tt : sT) (pn : sP) (hr : Nat) (f0 : Nat → va_E) (j k : Nat)  (hC : Cx ad L n nb q qk) (hR : RC ad dA n nb q qk ai le bd wt kk tt pn hr f0 f) (hj : j < nb) (hi : k < n) (hth : ¬ (bd j).1 = 0)  : mD l yX6_wet wsX6_wet ({ frames := 1, cells := 0, slots := 0, locals := 21 }) G dA [.ref (ad 0), .int (nI j), .int (nI k)] L f (fun r f2 => r = wt j k ∧ f2 = f) := by
  refine mD_of (cc := cX6_wet) (maxL := 4) (by decide) rfl (Nat.le_of_ble_eq_true rfl) ?_
  intro p e s m below meth c A ls Q hx hb hml hown hts hlocks hA hin0 hw hl hret
  have hown : s.vm.findClass RX6 = some m.cls := hown
  have hl : lv_has ls 4 [(0, .ref (ad 0)), (1, .int (nI j)), (2, .int (nI k))] := hl
  have hi1 : ∀ w ∈ u_ws RX1 TX1 7, w ∈ wsX6_wet := by decide +kernel
  refine lv_aload_n hx hb dX6_wet_0 rfl (lv_at hl 0 rfl) ?_
  refine lv_iload_n hx hb dX6_wet_1 rfl (lv_at hl 1 rfl) ?_
  refine kV_R (C := RX6) (T := TX6) (N := 8) (As := [.int (nI j)]) (rest := []) ⟨hx, hb, hml, hown, hts⟩ (c_X6_slotOf l G dA L f (ad 0) (ad 1) (ad 2) (ad 3) (ad 4) (ad 5) (ad 7) n hr nb j (ad (34 + 2 * j)) q (hC.m (by decide)) hR.x (hC.m (by decide)) hR.bs hC.nb31 hj (hC.2.2.2.2.1 j hj)) (cwV 1 hts gX6_wet_X6_slotOf rfl rfl rfl (by decide +kernel) ⟨Nat.le_of_ble_eq_true rfl, Nat.le_of_ble_eq_true rfl⟩) hw hA (hC.m (by decide)) hR.x rfl rfl hl.1 rfl (Nat.le_of_ble_eq_true rfl) dX6_wet_2 ⟨Nat.zero_le _, Nat.zero_le _⟩ (fun H locs hw => ?_)
  refine lv_astore_n (lv' := [(3, .ref (ad (34 + 2 * j))), (0, .ref (ad 0)), (1, .int (nI j)), (2, .int (nI k))]) hx hb dX6_wet_5 rfl hl (by decide) rfl (fun ls hl => ?_)
  refine lv_aload_n hx hb dX6_wet_6 rfl (lv_at hl 1 rfl) ?_
  refine lv_iload_n hx hb dX6_wet_7 rfl (lv_at hl 3 rfl) ?_
  refine kV_V (C := RX6) (T := TX6) (N := 8) (As := [.int (nI k)]) (rest := []) ⟨hx, hb, hml, hown, hts⟩ (c_X6_requireLayer l G dA L f (ad 0) (ad 1) (ad 2) (ad 3) (ad 4) (ad 5) (ad 7) n hr k (hC.m (by decide)) hR.x hC.n31 hi) (cwV 1 hts gX6_wet_X6_requireLayer rfl rfl rfl (by decide +kernel) ⟨Nat.le_of_ble_eq_true rfl, Nat.le_of_ble_eq_true rfl⟩) hw hA (hC.m (by decide)) hR.x rfl rfl hl.1 rfl (Nat.le_of_ble_eq_true rfl) dX6_wet_8 ⟨Nat.zero_le _, Nat.zero_le _⟩ (fun f1 H locs hp hw => ?_)
  rw [hp] at hw
  refine lv_aload_n hx hb dX6_wet_11 rfl (lv_at hl 0 rfl) ?_
  refine kS_V (As := [.ref (ad (34 + 2 * j))]) (rest := []) ⟨hx, hb, hml, hown, hts⟩ (c_X6_requireThere l G dA L f (ad (34 + 2 * j)) (ad (35 + 2 * j)) (ad (12 + (bd j).2.2.2.2.2)) (bd j).1 (bd j).2.2.1 (bd j).2.2.2.2.1 (bd j).2.1 (bd j).2.2.2.1 (hC.mb hj) (hR.brd hj) hth) (va_cwS 1 hts gX6_wet_X6_requireThere rfl rfl rfl (by decide +kernel) ⟨Nat.le_of_ble_eq_true rfl, Nat.le_of_ble_eq_true rfl⟩) hw hA rfl hl.1 rfl (Nat.le_of_ble_eq_true rfl) dX6_wet_12 ⟨Nat.zero_le _, Nat.zero_le _⟩ (fun f2 H locs hp hw => ?_)
  rw [hp] at hw
  refine lv_aload_n hx hb dX6_wet_15 rfl (lv_at hl 0 rfl) ?_
  refine wg (C := RX1) (T := TX1) (N := 7) hx hb hts hi1 hown hw (hC.mb hj) (hR.brd hj) rfl 0 (by decide) (hts (.fieldLink RX6 119 "LayerMoisture$Board" "wetness" "[D") (by decide +kernel)) (fun _ h9 => h9) (v := .ref (ad (35 + 2 * j))) rfl dX6_wet_16 ?_
  refine lv_iload_n hx hb dX6_wet_19 rfl (lv_at hl 3 rfl) ?_
  refine wld_d hx hb hw (hC.mw hj) (hR.wet hj) k hi hC.n31 rfl dX6_wet_20 ?_
  exact hret _ _ _ _ _ _ hw ⟨rfl, rfl⟩ dX6_wet_21

set_option maxHeartbeats 4000000 in
set_option maxRecDepth 100000 in
theorem c_X6_stress (l : Launch) (G : va_G) (dA : Nat → ClassId) (L : List Nat) (f : Nat → va_E) (ad : Nat → Nat) (n nb : Nat) (q qk : Nat → Option Nat) (ai : sA) (le : sL) (bd : Nat → sB) (wt : Nat → Nat → UInt64) (kk : Nat → UInt64 × UInt64) (tt : sT) (pn : sP) (hr : Nat) (f0 : Nat → va_E) (j k : Nat)  (hC : Cx ad L n nb q qk) (hR : RC ad dA n nb q qk ai le bd wt kk tt pn hr f0 f) (hj : j < nb) (hi : k < n) (hth : ¬ (bd j).1 = 0) (hg : ∀ i, i < n → Np (2 ^ 1076) (wt j i))  : mD l yX6_stress wsX6_stress ({ frames := 2, cells := 0, slots := 0, locals := 44 }) G dA [.ref (ad 0), .int (nI j), .int (nI k)] L f (fun r f2 => r = sp_stress (wt j) n k ∧ f2 = f) := by
  refine mD_of (cc := cX6_stress) (maxL := 4) (by decide) rfl (Nat.le_of_ble_eq_true rfl) ?_
  intro p e s m below meth c A ls Q hx hb hml hown hts hlocks hA hin0 hw hl hret
  have hown : s.vm.findClass RX6 = some m.cls := hown
  have hl : lv_has ls 4 [(0, .ref (ad 0)), (1, .int (nI j)), (2, .int (nI k))] := hl
  have hi1 : ∀ w ∈ u_ws RX1 TX1 7, w ∈ wsX6_stress := by decide +kernel
  obtain ⟨hc1, hc2, -, -, hst⟩ := b_load hg hC.2.2.1.2 hC.2.2.1.1
  refine lv_aload_n hx hb dX6_stress_0 rfl (lv_at hl 0 rfl) ?_
  refine lv_iload_n hx hb dX6_stress_1 rfl (lv_at hl 1 rfl) ?_
  refine kV_R (C := RX6) (T := TX6) (N := 8) (As := [.int (nI j)]) (rest := []) ⟨hx, hb, hml, hown, hts⟩ (c_X6_slotOf l G dA L f (ad 0) (ad 1) (ad 2) (ad 3) (ad 4) (ad 5) (ad 7) n hr nb j (ad (34 + 2 * j)) q (hC.m (by decide)) hR.x (hC.m (by decide)) hR.bs hC.nb31 hj (hC.2.2.2.2.1 j hj)) (cwV 1 hts gX6_stress_X6_slotOf rfl rfl rfl (by decide +kernel) ⟨Nat.le_of_ble_eq_true rfl, Nat.le_of_ble_eq_true rfl⟩) hw hA (hC.m (by decide)) hR.x rfl rfl hl.1 rfl (Nat.le_of_ble_eq_true rfl) dX6_stress_2 ⟨Nat.zero_le _, Nat.zero_le _⟩ (fun H locs hw => ?_)
  refine lv_astore_n (lv' := [(3, .ref (ad (34 + 2 * j))), (0, .ref (ad 0)), (1, .int (nI j)), (2, .int (nI k))]) hx hb dX6_stress_5 rfl hl (by decide) rfl (fun ls hl => ?_)
  refine lv_aload_n hx hb dX6_stress_6 rfl (lv_at hl 1 rfl) ?_
  refine lv_iload_n hx hb dX6_stress_7 rfl (lv_at hl 3 rfl) ?_
  refine kV_V (C := RX6) (T := TX6) (N := 8) (As := [.int (nI k)]) (rest := []) ⟨hx, hb, hml, hown, hts⟩ (c_X6_requireLayer l G dA L f (ad 0) (ad 1) (ad 2) (ad 3) (ad 4) (ad 5) (ad 7) n hr k (hC.m (by decide)) hR.x hC.n31 hi) (cwV 1 hts gX6_stress_X6_requireLayer rfl rfl rfl (by decide +kernel) ⟨Nat.le_of_ble_eq_true rfl, Nat.le_of_ble_eq_true rfl⟩) hw hA (hC.m (by decide)) hR.x rfl rfl hl.1 rfl (Nat.le_of_ble_eq_true rfl) dX6_stress_8 ⟨Nat.zero_le _, Nat.zero_le _⟩ (fun f1 H locs hp hw => ?_)
  rw [hp] at hw
  refine lv_aload_n hx hb dX6_stress_11 rfl (lv_at hl 0 rfl) ?_
  refine kS_V (As := [.ref (ad (34 + 2 * j))]) (rest := []) ⟨hx, hb, hml, hown, hts⟩ (c_X6_requireThere l G dA L f (ad (34 + 2 * j)) (ad (35 + 2 * j)) (ad (12 + (bd j).2.2.2.2.2)) (bd j).1 (bd j).2.2.1 (bd j).2.2.2.2.1 (bd j).2.1 (bd j).2.2.2.1 (hC.mb hj) (hR.brd hj) hth) (va_cwS 1 hts gX6_stress_X6_requireThere rfl rfl rfl (by decide +kernel) ⟨Nat.le_of_ble_eq_true rfl, Nat.le_of_ble_eq_true rfl⟩) hw hA rfl hl.1 rfl (Nat.le_of_ble_eq_true rfl) dX6_stress_12 ⟨Nat.zero_le _, Nat.zero_le _⟩ (fun f2 H locs hp hw => ?_)
  rw [hp] at hw
  refine lv_aload_n hx hb dX6_stress_15 rfl (lv_at hl 0 rfl) ?_
  refine wg (C := RX1) (T := TX1) (N := 7) hx hb hts hi1 hown hw (hC.mb hj) (hR.brd hj) rfl 0 (by decide) (hts (.fieldLink RX6 119 "LayerMoisture$Board" "wetness" "[D") (by decide +kernel)) (fun _ h9 => h9) (v := .ref (ad (35 + 2 * j))) rfl dX6_stress_16 ?_
  refine lv_iload_n hx hb dX6_stress_19 rfl (lv_at hl 3 rfl) ?_
  refine wld_d hx hb hw (hC.mw hj) (hR.wet hj) k hi hC.n31 rfl dX6_stress_20 ?_
  refine kS_D (As := [.double (((wt j)) k)]) (rest := []) ⟨hx, hb, hml, hown, hts⟩ (c_X1_shrinkage l G dA L f (wt j k) (hc1 k hi) (hc2 k hi)) (va_cwS 1 hts gX6_stress_X1_shrinkage rfl rfl rfl (by decide +kernel) ⟨Nat.le_of_ble_eq_true rfl, Nat.le_of_ble_eq_true rfl⟩) hw hA rfl hl.1 rfl (Nat.le_of_ble_eq_true rfl) dX6_stress_21 ⟨Nat.zero_le _, Nat.zero_le _⟩ (fun r4 f3 H locs hp hw => ?_)
  obtain ⟨e1, e2⟩ := hp
  rw [e2] at hw
  rw [e1]
  refine lv_aload_n hx hb dX6_stress_24 rfl (lv_at hl 0 rfl) ?_
  refine kV_D (C := RX1) (T := TX1) (N := 7) (As := []) (rest := [.double (sp_shr (wt j k))]) ⟨hx, hb, hml, hown, hts⟩ (d_mshr l G dA L f (ad (34 + 2 * j)) (ad (35 + 2 * j)) (ad (12 + (bd j).2.2.2.2.2)) (bd j).1 (bd j).2.2.1 (bd j).2.2.2.2.1 (bd j).2.1 (bd j).2.2.2.1 n (wt j) (hC.mb hj) (hR.brd hj) (hC.mw hj) (hR.wet hj) hC.2.2.1.1 hC.2.2.1.2 hg) (cwV 0 hts gX6_stress_X1_meanShrinkage rfl rfl rfl (by decide +kernel) ⟨Nat.le_of_ble_eq_true rfl, Nat.le_of_ble_eq_true rfl⟩) hw hA (hC.mb hj) (hR.brd hj) rfl rfl hl.1 rfl (Nat.le_of_ble_eq_true rfl) dX6_stress_25 ⟨Nat.zero_le _, Nat.zero_le _⟩ (fun r6 f5 H locs hp hw => ?_)
  obtain ⟨e1, e2⟩ := hp
  rw [e2] at hw
  rw [e1]
  refine lv_dsub hx hb dX6_stress_28 (hst k hi) ?_
  exact hret _ _ _ _ _ _ hw ⟨rfl, rfl⟩ dX6_stress_29

set_option maxHeartbeats 4000000 in
set_option maxRecDepth 100000 in
theorem x1_X6_wet (l : Launch) (hlt : l.stackTraces = false) (G : va_G) (dA : Nat → ClassId) (sa : Nat → Nat) (L : List Nat) (f : Nat → va_E) (ad : Nat → Nat) (n nb : Nat) (q qk : Nat → Option Nat) (ai : sA) (le : sL) (bd : Nat → sB) (wt : Nat → Nat → UInt64) (kk : Nat → UInt64 × UInt64) (tt : sT) (pn : sP) (hr : Nat) (f0 : Nat → va_E) (i k : Int32)  (hC : Cx ad L n nb q qk) (hR : RC ad dA n nb q qk ai le bd wt kk tt pn hr f0 f) (hbad : i < 0 ∨ nI nb ≤ i)  : mX l yX6_wet wsX6_wet ({ frames := 8, cells := 1, slots := 6, locals := 116 }) G dA [.ref (ad 0), .int i, .int k] L f sa 0 := by
  refine mX_of (cc := cX6_wet) (maxL := 4) (by decide) rfl (Nat.le_of_ble_eq_true rfl) ?_
  intro p e s m below meth c A ls hx hb hml hown hts hlocks hA ht hE hw hl
  have hown : s.vm.findClass RX6 = some m.cls := hown
  have hl : lv_has ls 4 [(0, .ref (ad 0)), (1, .int i), (2, .int k)] := hl
  refine lv_aload_n hx hb dX6_wet_0 rfl (lv_at hl 0 rfl) ?_
  refine lv_iload_n hx hb dX6_wet_1 rfl (lv_at hl 1 rfl) ?_
  exact kX_V (C := RX6) (T := TX6) (N := 8) (As := [.int i]) (rest := []) ⟨hx, hb, hml, hown, hts⟩ (x_X6_slotOf l hlt G dA sa L f (ad 0) (ad 1) (ad 2) (ad 3) (ad 4) (ad 5) (ad 7) n hr nb q i (hC.m (by decide)) hR.x (hC.m (by decide)) hR.bs hC.nb31 hbad) (cwV 1 hts gX6_wet_X6_slotOf rfl rfl rfl (by decide +kernel) ⟨Nat.le_of_ble_eq_true rfl, Nat.le_of_ble_eq_true rfl⟩) hw hE hA (hC.m (by decide)) hR.x rfl rfl hl.1 rfl (Nat.le_of_ble_eq_true rfl) dX6_wet_2 ⟨Nat.le_of_ble_eq_true rfl, Nat.le_of_ble_eq_true rfl⟩ (fun ce q H locs hw hc hv hcl => mX_out hw ht hlocks hc hv hcl)

set_option maxHeartbeats 4000000 in
set_option maxRecDepth 100000 in
theorem x2_X6_wet (l : Launch) (hlt : l.stackTraces = false) (G : va_G) (dA : Nat → ClassId) (sa : Nat → Nat) (L : List Nat) (f : Nat → va_E) (ad : Nat → Nat) (n nb : Nat) (q qk : Nat → Option Nat) (ai : sA) (le : sL) (bd : Nat → sB) (wt : Nat → Nat → UInt64) (kk : Nat → UInt64 × UInt64) (tt : sT) (pn : sP) (hr : Nat) (f0 : Nat → va_E) (j : Nat) (i : Int32)  (hC : Cx ad L n nb q qk) (hR : RC ad dA n nb q qk ai le bd wt kk tt pn hr f0 f) (hj : j < nb) (hbad : i < 0 ∨ nI n ≤ i)  : mX l yX6_wet wsX6_wet ({ frames := 8, cells := 1, slots := 6, locals := 116 }) G dA [.ref (ad 0), .int (nI j), .int i] L f sa 0 := by
  refine mX_of (cc := cX6_wet) (maxL := 4) (by decide) rfl (Nat.le_of_ble_eq_true rfl) ?_
  intro p e s m below meth c A ls hx hb hml hown hts hlocks hA ht hE hw hl
  have hown : s.vm.findClass RX6 = some m.cls := hown
  have hl : lv_has ls 4 [(0, .ref (ad 0)), (1, .int (nI j)), (2, .int i)] := hl
  refine lv_aload_n hx hb dX6_wet_0 rfl (lv_at hl 0 rfl) ?_
  refine lv_iload_n hx hb dX6_wet_1 rfl (lv_at hl 1 rfl) ?_
  refine kV_R (C := RX6) (T := TX6) (N := 8) (As := [.int (nI j)]) (rest := []) ⟨hx, hb, hml, hown, hts⟩ (c_X6_slotOf l G dA L f (ad 0) (ad 1) (ad 2) (ad 3) (ad 4) (ad 5) (ad 7) n hr nb j (ad (34 + 2 * j)) q (hC.m (by decide)) hR.x (hC.m (by decide)) hR.bs hC.nb31 hj (hC.2.2.2.2.1 j hj)) (cwV 1 hts gX6_wet_X6_slotOf rfl rfl rfl (by decide +kernel) ⟨Nat.le_of_ble_eq_true rfl, Nat.le_of_ble_eq_true rfl⟩) hw hA (hC.m (by decide)) hR.x rfl rfl hl.1 rfl (Nat.le_of_ble_eq_true rfl) dX6_wet_2 ⟨Nat.zero_le _, Nat.zero_le _⟩ (fun H locs hw => ?_)
  refine lv_astore_n (lv' := [(3, .ref (ad (34 + 2 * j))), (0, .ref (ad 0)), (1, .int (nI j)), (2, .int i)]) hx hb dX6_wet_5 rfl hl (by decide) rfl (fun ls hl => ?_)
  refine lv_aload_n hx hb dX6_wet_6 rfl (lv_at hl 1 rfl) ?_
  refine lv_iload_n hx hb dX6_wet_7 rfl (lv_at hl 3 rfl) ?_
  exact kX_V (C := RX6) (T := TX6) (N := 8) (As := [.int i]) (rest := []) ⟨hx, hb, hml, hown, hts⟩ (x_X6_requireLayer l hlt G dA sa L f (ad 0) (ad 1) (ad 2) (ad 3) (ad 4) (ad 5) (ad 7) n hr i (hC.m (by decide)) hR.x hbad) (cwV 1 hts gX6_wet_X6_requireLayer rfl rfl rfl (by decide +kernel) ⟨Nat.le_of_ble_eq_true rfl, Nat.le_of_ble_eq_true rfl⟩) hw hE hA (hC.m (by decide)) hR.x rfl rfl hl.1 rfl (Nat.le_of_ble_eq_true rfl) dX6_wet_8 ⟨Nat.le_of_ble_eq_true rfl, Nat.le_of_ble_eq_true rfl⟩ (fun ce q H locs hw hc hv hcl => mX_out hw ht hlocks hc hv hcl)

set_option maxHeartbeats 4000000 in
set_option maxRecDepth 100000 in
theorem x3_X6_wet (l : Launch) (hlt : l.stackTraces = false) (G : va_G) (dA : Nat → ClassId) (sa : Nat → Nat) (L : List Nat) (f : Nat → va_E) (ad : Nat → Nat) (n nb : Nat) (q qk : Nat → Option Nat) (ai : sA) (le : sL) (bd : Nat → sB) (wt : Nat → Nat → UInt64) (kk : Nat → UInt64 × UInt64) (tt : sT) (pn : sP) (hr : Nat) (f0 : Nat → va_E) (j k : Nat)  (hC : Cx ad L n nb q qk) (hR : RC ad dA n nb q qk ai le bd wt kk tt pn hr f0 f) (hj : j < nb) (hi : k < n) (hbad : (bd j).1 = 0)  : mX l yX6_wet wsX6_wet ({ frames := 8, cells := 1, slots := 6, locals := 115 }) G dA [.ref (ad 0), .int (nI j), .int (nI k)] L f sa 2 := by
  refine mX_of (cc := cX6_wet) (maxL := 4) (by decide) rfl (Nat.le_of_ble_eq_true rfl) ?_
  intro p e s m below meth c A ls hx hb hml hown hts hlocks hA ht hE hw hl
  have hown : s.vm.findClass RX6 = some m.cls := hown
  have hl : lv_has ls 4 [(0, .ref (ad 0)), (1, .int (nI j)), (2, .int (nI k))] := hl
  refine lv_aload_n hx hb dX6_wet_0 rfl (lv_at hl 0 rfl) ?_
  refine lv_iload_n hx hb dX6_wet_1 rfl (lv_at hl 1 rfl) ?_
  refine kV_R (C := RX6) (T := TX6) (N := 8) (As := [.int (nI j)]) (rest := []) ⟨hx, hb, hml, hown, hts⟩ (c_X6_slotOf l G dA L f (ad 0) (ad 1) (ad 2) (ad 3) (ad 4) (ad 5) (ad 7) n hr nb j (ad (34 + 2 * j)) q (hC.m (by decide)) hR.x (hC.m (by decide)) hR.bs hC.nb31 hj (hC.2.2.2.2.1 j hj)) (cwV 1 hts gX6_wet_X6_slotOf rfl rfl rfl (by decide +kernel) ⟨Nat.le_of_ble_eq_true rfl, Nat.le_of_ble_eq_true rfl⟩) hw hA (hC.m (by decide)) hR.x rfl rfl hl.1 rfl (Nat.le_of_ble_eq_true rfl) dX6_wet_2 ⟨Nat.zero_le _, Nat.zero_le _⟩ (fun H locs hw => ?_)
  refine lv_astore_n (lv' := [(3, .ref (ad (34 + 2 * j))), (0, .ref (ad 0)), (1, .int (nI j)), (2, .int (nI k))]) hx hb dX6_wet_5 rfl hl (by decide) rfl (fun ls hl => ?_)
  refine lv_aload_n hx hb dX6_wet_6 rfl (lv_at hl 1 rfl) ?_
  refine lv_iload_n hx hb dX6_wet_7 rfl (lv_at hl 3 rfl) ?_
  refine kV_V (C := RX6) (T := TX6) (N := 8) (As := [.int (nI k)]) (rest := []) ⟨hx, hb, hml, hown, hts⟩ (c_X6_requireLayer l G dA L f (ad 0) (ad 1) (ad 2) (ad 3) (ad 4) (ad 5) (ad 7) n hr k (hC.m (by decide)) hR.x hC.n31 hi) (cwV 1 hts gX6_wet_X6_requireLayer rfl rfl rfl (by decide +kernel) ⟨Nat.le_of_ble_eq_true rfl, Nat.le_of_ble_eq_true rfl⟩) hw hA (hC.m (by decide)) hR.x rfl rfl hl.1 rfl (Nat.le_of_ble_eq_true rfl) dX6_wet_8 ⟨Nat.zero_le _, Nat.zero_le _⟩ (fun f1 H locs hp hw => ?_)
  rw [hp] at hw
  refine lv_aload_n hx hb dX6_wet_11 rfl (lv_at hl 0 rfl) ?_
  exact kX_S (As := [.ref (ad (34 + 2 * j))]) (rest := []) ⟨hx, hb, hml, hown, hts⟩ (x_X6_requireThere l hlt G dA sa L f (ad (34 + 2 * j)) (ad (35 + 2 * j)) (ad (12 + (bd j).2.2.2.2.2)) (bd j).1 (bd j).2.2.1 (bd j).2.2.2.2.1 (bd j).2.1 (bd j).2.2.2.1 (hC.mb hj) (hR.brd hj) hbad) (va_cwS 1 hts gX6_wet_X6_requireThere rfl rfl rfl (by decide +kernel) ⟨Nat.le_of_ble_eq_true rfl, Nat.le_of_ble_eq_true rfl⟩) hw hE hA rfl hl.1 rfl (Nat.le_of_ble_eq_true rfl) dX6_wet_12 ⟨Nat.le_of_ble_eq_true rfl, Nat.le_of_ble_eq_true rfl⟩ (fun ce q H locs hw hc hv hcl => mX_out hw ht hlocks hc hv hcl)

set_option maxHeartbeats 4000000 in
set_option maxRecDepth 100000 in
theorem x1_X6_stress (l : Launch) (hlt : l.stackTraces = false) (G : va_G) (dA : Nat → ClassId) (sa : Nat → Nat) (L : List Nat) (f : Nat → va_E) (ad : Nat → Nat) (n nb : Nat) (q qk : Nat → Option Nat) (ai : sA) (le : sL) (bd : Nat → sB) (wt : Nat → Nat → UInt64) (kk : Nat → UInt64 × UInt64) (tt : sT) (pn : sP) (hr : Nat) (f0 : Nat → va_E) (i k : Int32)  (hC : Cx ad L n nb q qk) (hR : RC ad dA n nb q qk ai le bd wt kk tt pn hr f0 f) (hbad : i < 0 ∨ nI nb ≤ i)  : mX l yX6_stress wsX6_stress ({ frames := 8, cells := 1, slots := 6, locals := 116 }) G dA [.ref (ad 0), .int i, .int k] L f sa 0 := by
  refine mX_of (cc := cX6_stress) (maxL := 4) (by decide) rfl (Nat.le_of_ble_eq_true rfl) ?_
  intro p e s m below meth c A ls hx hb hml hown hts hlocks hA ht hE hw hl
  have hown : s.vm.findClass RX6 = some m.cls := hown
  have hl : lv_has ls 4 [(0, .ref (ad 0)), (1, .int i), (2, .int k)] := hl
  refine lv_aload_n hx hb dX6_stress_0 rfl (lv_at hl 0 rfl) ?_
  refine lv_iload_n hx hb dX6_stress_1 rfl (lv_at hl 1 rfl) ?_
  exact kX_V (C := RX6) (T := TX6) (N := 8) (As := [.int i]) (rest := []) ⟨hx, hb, hml, hown, hts⟩ (x_X6_slotOf l hlt G dA sa L f (ad 0) (ad 1) (ad 2) (ad 3) (ad 4) (ad 5) (ad 7) n hr nb q i (hC.m (by decide)) hR.x (hC.m (by decide)) hR.bs hC.nb31 hbad) (cwV 1 hts gX6_stress_X6_slotOf rfl rfl rfl (by decide +kernel) ⟨Nat.le_of_ble_eq_true rfl, Nat.le_of_ble_eq_true rfl⟩) hw hE hA (hC.m (by decide)) hR.x rfl rfl hl.1 rfl (Nat.le_of_ble_eq_true rfl) dX6_stress_2 ⟨Nat.le_of_ble_eq_true rfl, Nat.le_of_ble_eq_true rfl⟩ (fun ce q H locs hw hc hv hcl => mX_out hw ht hlocks hc hv hcl)

set_option maxHeartbeats 4000000 in
set_option maxRecDepth 100000 in
theorem x2_X6_stress (l : Launch) (hlt : l.stackTraces = false) (G : va_G) (dA : Nat → ClassId) (sa : Nat → Nat) (L : List Nat) (f : Nat → va_E) (ad : Nat → Nat) (n nb : Nat) (q qk : Nat → Option Nat) (ai : sA) (le : sL) (bd : Nat → sB) (wt : Nat → Nat → UInt64) (kk : Nat → UInt64 × UInt64) (tt : sT) (pn : sP) (hr : Nat) (f0 : Nat → va_E) (j : Nat) (i : Int32)  (hC : Cx ad L n nb q qk) (hR : RC ad dA n nb q qk ai le bd wt kk tt pn hr f0 f) (hj : j < nb) (hbad : i < 0 ∨ nI n ≤ i)  : mX l yX6_stress wsX6_stress ({ frames := 8, cells := 1, slots := 6, locals := 116 }) G dA [.ref (ad 0), .int (nI j), .int i] L f sa 0 := by
  refine mX_of (cc := cX6_stress) (maxL := 4) (by decide) rfl (Nat.le_of_ble_eq_true rfl) ?_
  intro p e s m below meth c A ls hx hb hml hown hts hlocks hA ht hE hw hl
  have hown : s.vm.findClass RX6 = some m.cls := hown
  have hl : lv_has ls 4 [(0, .ref (ad 0)), (1, .int (nI j)), (2, .int i)] := hl
  refine lv_aload_n hx hb dX6_stress_0 rfl (lv_at hl 0 rfl) ?_
  refine lv_iload_n hx hb dX6_stress_1 rfl (lv_at hl 1 rfl) ?_
  refine kV_R (C := RX6) (T := TX6) (N := 8) (As := [.int (nI j)]) (rest := []) ⟨hx, hb, hml, hown, hts⟩ (c_X6_slotOf l G dA L f (ad 0) (ad 1) (ad 2) (ad 3) (ad 4) (ad 5) (ad 7) n hr nb j (ad (34 + 2 * j)) q (hC.m (by decide)) hR.x (hC.m (by decide)) hR.bs hC.nb31 hj (hC.2.2.2.2.1 j hj)) (cwV 1 hts gX6_stress_X6_slotOf rfl rfl rfl (by decide +kernel) ⟨Nat.le_of_ble_eq_true rfl, Nat.le_of_ble_eq_true rfl⟩) hw hA (hC.m (by decide)) hR.x rfl rfl hl.1 rfl (Nat.le_of_ble_eq_true rfl) dX6_stress_2 ⟨Nat.zero_le _, Nat.zero_le _⟩ (fun H locs hw => ?_)
  refine lv_astore_n (lv' := [(3, .ref (ad (34 + 2 * j))), (0, .ref (ad 0)), (1, .int (nI j)), (2, .int i)]) hx hb dX6_stress_5 rfl hl (by decide) rfl (fun ls hl => ?_)
  refine lv_aload_n hx hb dX6_stress_6 rfl (lv_at hl 1 rfl) ?_
  refine lv_iload_n hx hb dX6_stress_7 rfl (lv_at hl 3 rfl) ?_
  exact kX_V (C := RX6) (T := TX6) (N := 8) (As := [.int i]) (rest := []) ⟨hx, hb, hml, hown, hts⟩ (x_X6_requireLayer l hlt G dA sa L f (ad 0) (ad 1) (ad 2) (ad 3) (ad 4) (ad 5) (ad 7) n hr i (hC.m (by decide)) hR.x hbad) (cwV 1 hts gX6_stress_X6_requireLayer rfl rfl rfl (by decide +kernel) ⟨Nat.le_of_ble_eq_true rfl, Nat.le_of_ble_eq_true rfl⟩) hw hE hA (hC.m (by decide)) hR.x rfl rfl hl.1 rfl (Nat.le_of_ble_eq_true rfl) dX6_stress_8 ⟨Nat.le_of_ble_eq_true rfl, Nat.le_of_ble_eq_true rfl⟩ (fun ce q H locs hw hc hv hcl => mX_out hw ht hlocks hc hv hcl)

set_option maxHeartbeats 4000000 in
set_option maxRecDepth 100000 in
theorem x3_X6_stress (l : Launch) (hlt : l.stackTraces = false) (G : va_G) (dA : Nat → ClassId) (sa : Nat → Nat) (L : List Nat) (f : Nat → va_E) (ad : Nat → Nat) (n nb : Nat) (q qk : Nat → Option Nat) (ai : sA) (le : sL) (bd : Nat → sB) (wt : Nat → Nat → UInt64) (kk : Nat → UInt64 × UInt64) (tt : sT) (pn : sP) (hr : Nat) (f0 : Nat → va_E) (j k : Nat)  (hC : Cx ad L n nb q qk) (hR : RC ad dA n nb q qk ai le bd wt kk tt pn hr f0 f) (hj : j < nb) (hi : k < n) (hbad : (bd j).1 = 0)  : mX l yX6_stress wsX6_stress ({ frames := 8, cells := 1, slots := 6, locals := 115 }) G dA [.ref (ad 0), .int (nI j), .int (nI k)] L f sa 2 := by
  refine mX_of (cc := cX6_stress) (maxL := 4) (by decide) rfl (Nat.le_of_ble_eq_true rfl) ?_
  intro p e s m below meth c A ls hx hb hml hown hts hlocks hA ht hE hw hl
  have hown : s.vm.findClass RX6 = some m.cls := hown
  have hl : lv_has ls 4 [(0, .ref (ad 0)), (1, .int (nI j)), (2, .int (nI k))] := hl
  refine lv_aload_n hx hb dX6_stress_0 rfl (lv_at hl 0 rfl) ?_
  refine lv_iload_n hx hb dX6_stress_1 rfl (lv_at hl 1 rfl) ?_
  refine kV_R (C := RX6) (T := TX6) (N := 8) (As := [.int (nI j)]) (rest := []) ⟨hx, hb, hml, hown, hts⟩ (c_X6_slotOf l G dA L f (ad 0) (ad 1) (ad 2) (ad 3) (ad 4) (ad 5) (ad 7) n hr nb j (ad (34 + 2 * j)) q (hC.m (by decide)) hR.x (hC.m (by decide)) hR.bs hC.nb31 hj (hC.2.2.2.2.1 j hj)) (cwV 1 hts gX6_stress_X6_slotOf rfl rfl rfl (by decide +kernel) ⟨Nat.le_of_ble_eq_true rfl, Nat.le_of_ble_eq_true rfl⟩) hw hA (hC.m (by decide)) hR.x rfl rfl hl.1 rfl (Nat.le_of_ble_eq_true rfl) dX6_stress_2 ⟨Nat.zero_le _, Nat.zero_le _⟩ (fun H locs hw => ?_)
  refine lv_astore_n (lv' := [(3, .ref (ad (34 + 2 * j))), (0, .ref (ad 0)), (1, .int (nI j)), (2, .int (nI k))]) hx hb dX6_stress_5 rfl hl (by decide) rfl (fun ls hl => ?_)
  refine lv_aload_n hx hb dX6_stress_6 rfl (lv_at hl 1 rfl) ?_
  refine lv_iload_n hx hb dX6_stress_7 rfl (lv_at hl 3 rfl) ?_
  refine kV_V (C := RX6) (T := TX6) (N := 8) (As := [.int (nI k)]) (rest := []) ⟨hx, hb, hml, hown, hts⟩ (c_X6_requireLayer l G dA L f (ad 0) (ad 1) (ad 2) (ad 3) (ad 4) (ad 5) (ad 7) n hr k (hC.m (by decide)) hR.x hC.n31 hi) (cwV 1 hts gX6_stress_X6_requireLayer rfl rfl rfl (by decide +kernel) ⟨Nat.le_of_ble_eq_true rfl, Nat.le_of_ble_eq_true rfl⟩) hw hA (hC.m (by decide)) hR.x rfl rfl hl.1 rfl (Nat.le_of_ble_eq_true rfl) dX6_stress_8 ⟨Nat.zero_le _, Nat.zero_le _⟩ (fun f1 H locs hp hw => ?_)
  rw [hp] at hw
  refine lv_aload_n hx hb dX6_stress_11 rfl (lv_at hl 0 rfl) ?_
  exact kX_S (As := [.ref (ad (34 + 2 * j))]) (rest := []) ⟨hx, hb, hml, hown, hts⟩ (x_X6_requireThere l hlt G dA sa L f (ad (34 + 2 * j)) (ad (35 + 2 * j)) (ad (12 + (bd j).2.2.2.2.2)) (bd j).1 (bd j).2.2.1 (bd j).2.2.2.2.1 (bd j).2.1 (bd j).2.2.2.1 (hC.mb hj) (hR.brd hj) hbad) (va_cwS 1 hts gX6_stress_X6_requireThere rfl rfl rfl (by decide +kernel) ⟨Nat.le_of_ble_eq_true rfl, Nat.le_of_ble_eq_true rfl⟩) hw hE hA rfl hl.1 rfl (Nat.le_of_ble_eq_true rfl) dX6_stress_12 ⟨Nat.le_of_ble_eq_true rfl, Nat.le_of_ble_eq_true rfl⟩ (fun ce q H locs hw hc hv hcl => mX_out hw ht hlocks hc hv hcl)

set_option maxHeartbeats 4000000 in
set_option maxRecDepth 100000 in
theorem c_X6_balance (l : Launch) (G : va_G) (dA : Nat → ClassId) (L : List Nat) (f : Nat → va_E) (ad : Nat → Nat) (n nb : Nat) (q qk : Nat → Option Nat) (ai : sA) (le : sL) (bd : Nat → sB) (wt : Nat → Nat → UInt64) (kk : Nat → UInt64 × UInt64) (tt : sT) (pn : sP) (hr : Nat) (f0 : Nat → va_E)   (hC : Cx ad L n nb q qk) (hR : RC ad dA n nb q qk ai le bd wt kk tt pn hr f0 f) (hGA : GAs ai)  : mD l yX6_balance wsX6_balance ({ frames := 1, cells := 0, slots := 0, locals := 20 }) G dA [.ref (ad 0)] L f (fun r f2 => r = sp_bal ai.1 ai.2.1 ∧ f2 = f) := by
  refine mD_of (cc := cX6_balance) (maxL := 1) (by decide) rfl (Nat.le_of_ble_eq_true rfl) ?_
  intro p e s m below meth c A ls Q hx hb hml hown hts hlocks hA hin0 hw hl hret
  have hown : s.vm.findClass RX6 = some m.cls := hown
  have hl : lv_has ls 1 [(0, .ref (ad 0))] := hl
  have hi6 : ∀ w ∈ u_ws RX6 TX6 8, w ∈ wsX6_balance := by decide +kernel
  refine lv_aload_n hx hb dX6_balance_0 rfl (lv_at hl 0 rfl) ?_
  refine wg (C := RX6) (T := TX6) (N := 8) hx hb hts hi6 hown hw (hC.m (by decide)) hR.x rfl 3 (by decide) (hts (.fieldLink RX6 41 "LayerMoisture" "state" "LLayerMoisture$Air;") (by decide +kernel)) (fun _ h9 => h9) (v := .ref (ad 3)) rfl dX6_balance_1 ?_
  refine kV_D (C := RX0) (T := TX0) (N := 4) (As := []) (rest := []) ⟨hx, hb, hml, hown, hts⟩ (d_bal l G dA L f (ad 3) ai (hC.m (by decide)) hR.air hGA) (cwV 0 hts gX6_balance_X0_balanceNow rfl rfl rfl (by decide +kernel) ⟨Nat.le_of_ble_eq_true rfl, Nat.le_of_ble_eq_true rfl⟩) hw hA (hC.m (by decide)) hR.air rfl rfl hl.1 rfl (Nat.le_of_ble_eq_true rfl) dX6_balance_4 ⟨Nat.zero_le _, Nat.zero_le _⟩ (fun r2 f1 H locs hp hw => ?_)
  obtain ⟨e1, e2⟩ := hp
  rw [e2] at hw
  rw [e1]
  exact hret _ _ _ _ _ _ hw ⟨rfl, rfl⟩ dX6_balance_7

set_option maxHeartbeats 4000000 in
set_option maxRecDepth 100000 in
theorem c_X6_grams (l : Launch) (G : va_G) (dA : Nat → ClassId) (L : List Nat) (f : Nat → va_E) (ad : Nat → Nat) (n nb : Nat) (q qk : Nat → Option Nat) (ai : sA) (le : sL) (bd : Nat → sB) (wt : Nat → Nat → UInt64) (kk : Nat → UInt64 × UInt64) (tt : sT) (pn : sP) (hr : Nat) (f0 : Nat → va_E)   (hC : Cx ad L n nb q qk) (hR : RC ad dA n nb q qk ai le bd wt kk tt pn hr f0 f)   : mL l yX6_grams wsX6_grams ({ frames := 0, cells := 0, slots := 0, locals := 0 }) G dA [.ref (ad 0)] L f (fun r f2 => r = le.2 ∧ f2 = f) := by
  refine mL_of (cc := cX6_grams) (maxL := 1) (by decide) rfl (Nat.le_of_ble_eq_true rfl) ?_
  intro p e s m below meth c A ls Q hx hb hml hown hts hlocks hA hin0 hw hl hret
  have hown : s.vm.findClass RX6 = some m.cls := hown
  have hl : lv_has ls 1 [(0, .ref (ad 0))] := hl
  have hi3 : ∀ w ∈ u_ws RX3 TX3 2, w ∈ wsX6_grams := by decide +kernel
  have hi6 : ∀ w ∈ u_ws RX6 TX6 8, w ∈ wsX6_grams := by decide +kernel
  refine lv_aload_n hx hb dX6_grams_0 rfl (lv_at hl 0 rfl) ?_
  refine wg (C := RX6) (T := TX6) (N := 8) hx hb hts hi6 hown hw (hC.m (by decide)) hR.x rfl 4 (by decide) (hts (.fieldLink RX6 48 "LayerMoisture" "ledger" "LLayerMoisture$Ledger;") (by decide +kernel)) (fun _ h9 => h9) (v := .ref (ad 4)) rfl dX6_grams_1 ?_
  refine wg (C := RX3) (T := TX3) (N := 2) hx hb hts hi3 hown hw (hC.m (by decide)) hR.led rfl 1 (by decide) (hts (.fieldLink RX6 182 "LayerMoisture$Ledger" "gone" "J") (by decide +kernel)) (fun _ h9 => h9) (v := .long le.2) rfl dX6_grams_4 ?_
  exact hret _ _ _ _ _ _ hw ⟨rfl, rfl⟩ dX6_grams_7

set_option maxHeartbeats 4000000 in
set_option maxRecDepth 100000 in
theorem c_X6_told_0 (l : Launch) (G : va_G) (dA : Nat → ClassId) (L : List Nat) (f : Nat → va_E) (ad : Nat → Nat) (n nb : Nat) (q qk : Nat → Option Nat) (ai : sA) (le : sL) (bd : Nat → sB) (wt : Nat → Nat → UInt64) (kk : Nat → UInt64 × UInt64) (tt : sT) (pn : sP) (hr : Nat) (f0 : Nat → va_E)   (hC : Cx ad L n nb q qk) (hR : RC ad dA n nb q qk ai le bd wt kk tt pn hr f0 f)   : mD l yX6_told wsX6_told ({ frames := 0, cells := 0, slots := 0, locals := 0 }) G dA [.ref (ad 0), .int (nI 0)] L f (fun r f2 => r = toldS ai le 0 ∧ f2 = f) := by
  refine mD_of (cc := cX6_told) (maxL := 2) (by decide) rfl (Nat.le_of_ble_eq_true rfl) ?_
  intro p e s m below meth c A ls Q hx hb hml hown hts hlocks hA hin0 hw hl hret
  have hown : s.vm.findClass RX6 = some m.cls := hown
  have hl : lv_has ls 2 [(0, .ref (ad 0)), (1, .int (nI 0))] := hl
  have hi0 : ∀ w ∈ u_ws RX0 TX0 4, w ∈ wsX6_told := by decide +kernel
  have hi6 : ∀ w ∈ u_ws RX6 TX6 8, w ∈ wsX6_told := by decide +kernel
  refine lv_iload_n hx hb dX6_told_0 rfl (lv_at hl 1 rfl) ?_
  refine lv_tableIn (tgt := 36) hx hb dX6_told_1 (by decide) (by decide) (off := 35) (by decide) (by decide) ?_
  refine lv_aload_n hx hb dX6_told_36 rfl (lv_at hl 0 rfl) ?_
  refine wg (C := RX6) (T := TX6) (N := 8) hx hb hts hi6 hown hw (hC.m (by decide)) hR.x rfl 3 (by decide) (hts (.fieldLink RX6 41 "LayerMoisture" "state" "LLayerMoisture$Air;") (by decide +kernel)) (fun _ h9 => h9) (v := .ref (ad 3)) rfl dX6_told_37 ?_
  refine wg (C := RX0) (T := TX0) (N := 4) hx hb hts hi0 hown hw (hC.m (by decide)) hR.air rfl 0 (by decide) (hts (.fieldLink RX6 99 "LayerMoisture$Air" "kelvin" "D") (by decide +kernel)) (fun _ h9 => h9) (v := .double ai.1) rfl dX6_told_40 ?_
  exact hret _ _ _ _ _ _ hw ⟨rfl, rfl⟩ dX6_told_43

set_option maxHeartbeats 4000000 in
set_option maxRecDepth 100000 in
theorem c_X6_told_1 (l : Launch) (G : va_G) (dA : Nat → ClassId) (L : List Nat) (f : Nat → va_E) (ad : Nat → Nat) (n nb : Nat) (q qk : Nat → Option Nat) (ai : sA) (le : sL) (bd : Nat → sB) (wt : Nat → Nat → UInt64) (kk : Nat → UInt64 × UInt64) (tt : sT) (pn : sP) (hr : Nat) (f0 : Nat → va_E)   (hC : Cx ad L n nb q qk) (hR : RC ad dA n nb q qk ai le bd wt kk tt pn hr f0 f)   : mD l yX6_told wsX6_told ({ frames := 0, cells := 0, slots := 0, locals := 0 }) G dA [.ref (ad 0), .int (nI 1)] L f (fun r f2 => r = toldS ai le 1 ∧ f2 = f) := by
  refine mD_of (cc := cX6_told) (maxL := 2) (by decide) rfl (Nat.le_of_ble_eq_true rfl) ?_
  intro p e s m below meth c A ls Q hx hb hml hown hts hlocks hA hin0 hw hl hret
  have hown : s.vm.findClass RX6 = some m.cls := hown
  have hl : lv_has ls 2 [(0, .ref (ad 0)), (1, .int (nI 1))] := hl
  have hi0 : ∀ w ∈ u_ws RX0 TX0 4, w ∈ wsX6_told := by decide +kernel
  have hi6 : ∀ w ∈ u_ws RX6 TX6 8, w ∈ wsX6_told := by decide +kernel
  refine lv_iload_n hx hb dX6_told_0 rfl (lv_at hl 1 rfl) ?_
  refine lv_tableIn (tgt := 44) hx hb dX6_told_1 (by decide) (by decide) (off := 43) (by decide) (by decide) ?_
  refine lv_aload_n hx hb dX6_told_44 rfl (lv_at hl 0 rfl) ?_
  refine wg (C := RX6) (T := TX6) (N := 8) hx hb hts hi6 hown hw (hC.m (by decide)) hR.x rfl 3 (by decide) (hts (.fieldLink RX6 41 "LayerMoisture" "state" "LLayerMoisture$Air;") (by decide +kernel)) (fun _ h9 => h9) (v := .ref (ad 3)) rfl dX6_told_45 ?_
  refine wg (C := RX0) (T := TX0) (N := 4) hx hb hts hi0 hown hw (hC.m (by decide)) hR.air rfl 1 (by decide) (hts (.fieldLink RX6 102 "LayerMoisture$Air" "damp" "D") (by decide +kernel)) (fun _ h9 => h9) (v := .double ai.2.1) rfl dX6_told_48 ?_
  exact hret _ _ _ _ _ _ hw ⟨rfl, rfl⟩ dX6_told_51

set_option maxHeartbeats 4000000 in
set_option maxRecDepth 100000 in
theorem c_X6_told_2 (l : Launch) (G : va_G) (dA : Nat → ClassId) (L : List Nat) (f : Nat → va_E) (ad : Nat → Nat) (n nb : Nat) (q qk : Nat → Option Nat) (ai : sA) (le : sL) (bd : Nat → sB) (wt : Nat → Nat → UInt64) (kk : Nat → UInt64 × UInt64) (tt : sT) (pn : sP) (hr : Nat) (f0 : Nat → va_E)   (hC : Cx ad L n nb q qk) (hR : RC ad dA n nb q qk ai le bd wt kk tt pn hr f0 f)   : mD l yX6_told wsX6_told ({ frames := 0, cells := 0, slots := 0, locals := 0 }) G dA [.ref (ad 0), .int (nI 2)] L f (fun r f2 => r = toldS ai le 2 ∧ f2 = f) := by
  refine mD_of (cc := cX6_told) (maxL := 2) (by decide) rfl (Nat.le_of_ble_eq_true rfl) ?_
  intro p e s m below meth c A ls Q hx hb hml hown hts hlocks hA hin0 hw hl hret
  have hown : s.vm.findClass RX6 = some m.cls := hown
  have hl : lv_has ls 2 [(0, .ref (ad 0)), (1, .int (nI 2))] := hl
  have hi0 : ∀ w ∈ u_ws RX0 TX0 4, w ∈ wsX6_told := by decide +kernel
  have hi6 : ∀ w ∈ u_ws RX6 TX6 8, w ∈ wsX6_told := by decide +kernel
  refine lv_iload_n hx hb dX6_told_0 rfl (lv_at hl 1 rfl) ?_
  refine lv_tableIn (tgt := 52) hx hb dX6_told_1 (by decide) (by decide) (off := 51) (by decide) (by decide) ?_
  refine lv_aload_n hx hb dX6_told_52 rfl (lv_at hl 0 rfl) ?_
  refine wg (C := RX6) (T := TX6) (N := 8) hx hb hts hi6 hown hw (hC.m (by decide)) hR.x rfl 3 (by decide) (hts (.fieldLink RX6 41 "LayerMoisture" "state" "LLayerMoisture$Air;") (by decide +kernel)) (fun _ h9 => h9) (v := .ref (ad 3)) rfl dX6_told_53 ?_
  refine wg (C := RX0) (T := TX0) (N := 4) hx hb hts hi0 hown hw (hC.m (by decide)) hR.air rfl 2 (by decide) (hts (.fieldLink RX6 105 "LayerMoisture$Air" "speed" "D") (by decide +kernel)) (fun _ h9 => h9) (v := .double ai.2.2.1) rfl dX6_told_56 ?_
  exact hret _ _ _ _ _ _ hw ⟨rfl, rfl⟩ dX6_told_59

set_option maxHeartbeats 4000000 in
set_option maxRecDepth 100000 in
theorem c_X6_told_3 (l : Launch) (G : va_G) (dA : Nat → ClassId) (L : List Nat) (f : Nat → va_E) (ad : Nat → Nat) (n nb : Nat) (q qk : Nat → Option Nat) (ai : sA) (le : sL) (bd : Nat → sB) (wt : Nat → Nat → UInt64) (kk : Nat → UInt64 × UInt64) (tt : sT) (pn : sP) (hr : Nat) (f0 : Nat → va_E)   (hC : Cx ad L n nb q qk) (hR : RC ad dA n nb q qk ai le bd wt kk tt pn hr f0 f)   : mD l yX6_told wsX6_told ({ frames := 0, cells := 0, slots := 0, locals := 0 }) G dA [.ref (ad 0), .int (nI 3)] L f (fun r f2 => r = toldS ai le 3 ∧ f2 = f) := by
  refine mD_of (cc := cX6_told) (maxL := 2) (by decide) rfl (Nat.le_of_ble_eq_true rfl) ?_
  intro p e s m below meth c A ls Q hx hb hml hown hts hlocks hA hin0 hw hl hret
  have hown : s.vm.findClass RX6 = some m.cls := hown
  have hl : lv_has ls 2 [(0, .ref (ad 0)), (1, .int (nI 3))] := hl
  have hi0 : ∀ w ∈ u_ws RX0 TX0 4, w ∈ wsX6_told := by decide +kernel
  have hi6 : ∀ w ∈ u_ws RX6 TX6 8, w ∈ wsX6_told := by decide +kernel
  refine lv_iload_n hx hb dX6_told_0 rfl (lv_at hl 1 rfl) ?_
  refine lv_tableIn (tgt := 60) hx hb dX6_told_1 (by decide) (by decide) (off := 59) (by decide) (by decide) ?_
  refine lv_aload_n hx hb dX6_told_60 rfl (lv_at hl 0 rfl) ?_
  refine wg (C := RX6) (T := TX6) (N := 8) hx hb hts hi6 hown hw (hC.m (by decide)) hR.x rfl 3 (by decide) (hts (.fieldLink RX6 41 "LayerMoisture" "state" "LLayerMoisture$Air;") (by decide +kernel)) (fun _ h9 => h9) (v := .ref (ad 3)) rfl dX6_told_61 ?_
  refine wg (C := RX0) (T := TX0) (N := 4) hx hb hts hi0 hown hw (hC.m (by decide)) hR.air rfl 3 (by decide) (hts (.fieldLink RX6 108 "LayerMoisture$Air" "ventShare" "D") (by decide +kernel)) (fun _ h9 => h9) (v := .double ai.2.2.2) rfl dX6_told_64 ?_
  exact hret _ _ _ _ _ _ hw ⟨rfl, rfl⟩ dX6_told_67

set_option maxHeartbeats 4000000 in
set_option maxRecDepth 100000 in
theorem c_X6_told_4 (l : Launch) (G : va_G) (dA : Nat → ClassId) (L : List Nat) (f : Nat → va_E) (ad : Nat → Nat) (n nb : Nat) (q qk : Nat → Option Nat) (ai : sA) (le : sL) (bd : Nat → sB) (wt : Nat → Nat → UInt64) (kk : Nat → UInt64 × UInt64) (tt : sT) (pn : sP) (hr : Nat) (f0 : Nat → va_E)   (hC : Cx ad L n nb q qk) (hR : RC ad dA n nb q qk ai le bd wt kk tt pn hr f0 f)   : mD l yX6_told wsX6_told ({ frames := 0, cells := 0, slots := 0, locals := 0 }) G dA [.ref (ad 0), .int (nI 4)] L f (fun r f2 => r = toldS ai le 4 ∧ f2 = f) := by
  refine mD_of (cc := cX6_told) (maxL := 2) (by decide) rfl (Nat.le_of_ble_eq_true rfl) ?_
  intro p e s m below meth c A ls Q hx hb hml hown hts hlocks hA hin0 hw hl hret
  have hown : s.vm.findClass RX6 = some m.cls := hown
  have hl : lv_has ls 2 [(0, .ref (ad 0)), (1, .int (nI 4))] := hl
  have hi3 : ∀ w ∈ u_ws RX3 TX3 2, w ∈ wsX6_told := by decide +kernel
  have hi6 : ∀ w ∈ u_ws RX6 TX6 8, w ∈ wsX6_told := by decide +kernel
  refine lv_iload_n hx hb dX6_told_0 rfl (lv_at hl 1 rfl) ?_
  refine lv_tableIn (tgt := 68) hx hb dX6_told_1 (by decide) (by decide) (off := 67) (by decide) (by decide) ?_
  refine lv_aload_n hx hb dX6_told_68 rfl (lv_at hl 0 rfl) ?_
  refine wg (C := RX6) (T := TX6) (N := 8) hx hb hts hi6 hown hw (hC.m (by decide)) hR.x rfl 4 (by decide) (hts (.fieldLink RX6 48 "LayerMoisture" "ledger" "LLayerMoisture$Ledger;") (by decide +kernel)) (fun _ h9 => h9) (v := .ref (ad 4)) rfl dX6_told_69 ?_
  refine wg (C := RX3) (T := TX3) (N := 2) hx hb hts hi3 hown hw (hC.m (by decide)) hR.led rfl 0 (by decide) (hts (.fieldLink RX6 174 "LayerMoisture$Ledger" "rest" "D") (by decide +kernel)) (fun _ h9 => h9) (v := .double le.1) rfl dX6_told_72 ?_
  exact hret _ _ _ _ _ _ hw ⟨rfl, rfl⟩ dX6_told_75

set_option maxHeartbeats 4000000 in
set_option maxRecDepth 100000 in
theorem c_X6_count_0 (l : Launch) (G : va_G) (dA : Nat → ClassId) (L : List Nat) (f : Nat → va_E) (ad : Nat → Nat) (n nb : Nat) (q qk : Nat → Option Nat) (ai : sA) (le : sL) (bd : Nat → sB) (wt : Nat → Nat → UInt64) (kk : Nat → UInt64 × UInt64) (tt : sT) (pn : sP) (hr : Nat) (f0 : Nat → va_E)   (hC : Cx ad L n nb q qk) (hR : RC ad dA n nb q qk ai le bd wt kk tt pn hr f0 f)   : mI l yX6_count wsX6_count ({ frames := 0, cells := 0, slots := 0, locals := 0 }) G dA [.ref (ad 0), .int (nI 0)] L f (fun r f2 => r = nI (cntS bd nb pn hr 0) ∧ f2 = f) := by
  refine mI_of (cc := cX6_count) (maxL := 2) (by decide) rfl (Nat.le_of_ble_eq_true rfl) ?_
  intro p e s m below meth c A ls Q hx hb hml hown hts hlocks hA hin0 hw hl hret
  have hown : s.vm.findClass RX6 = some m.cls := hown
  have hl : lv_has ls 2 [(0, .ref (ad 0)), (1, .int (nI 0))] := hl
  have hi6 : ∀ w ∈ u_ws RX6 TX6 8, w ∈ wsX6_count := by decide +kernel
  refine lv_iload_n hx hb dX6_count_0 rfl (lv_at hl 1 rfl) ?_
  refine lv_tableIn (tgt := 28) hx hb dX6_count_1 (by decide) (by decide) (off := 27) (by decide) (by decide) ?_
  refine lv_aload_n hx hb dX6_count_28 rfl (lv_at hl 0 rfl) ?_
  refine wg (C := RX6) (T := TX6) (N := 8) hx hb hts hi6 hown hw (hC.m (by decide)) hR.x rfl 7 (by decide) (hts (.fieldLink RX6 142 "LayerMoisture" "hoursPassed" "I") (by decide +kernel)) (fun _ h9 => h9) (v := .int (nI hr)) rfl dX6_count_29 ?_
  exact hret _ _ _ _ _ _ hw ⟨rfl, rfl⟩ rfl dX6_count_32

set_option maxHeartbeats 4000000 in
set_option maxRecDepth 100000 in
theorem c_X6_count_1 (l : Launch) (G : va_G) (dA : Nat → ClassId) (L : List Nat) (f : Nat → va_E) (ad : Nat → Nat) (n nb : Nat) (q qk : Nat → Option Nat) (ai : sA) (le : sL) (bd : Nat → sB) (wt : Nat → Nat → UInt64) (kk : Nat → UInt64 × UInt64) (tt : sT) (pn : sP) (hr : Nat) (f0 : Nat → va_E)   (hC : Cx ad L n nb q qk) (hR : RC ad dA n nb q qk ai le bd wt kk tt pn hr f0 f)   : mI l yX6_count wsX6_count ({ frames := 0, cells := 0, slots := 0, locals := 0 }) G dA [.ref (ad 0), .int (nI 1)] L f (fun r f2 => r = nI (cntS bd nb pn hr 1) ∧ f2 = f) := by
  refine mI_of (cc := cX6_count) (maxL := 2) (by decide) rfl (Nat.le_of_ble_eq_true rfl) ?_
  intro p e s m below meth c A ls Q hx hb hml hown hts hlocks hA hin0 hw hl hret
  have hown : s.vm.findClass RX6 = some m.cls := hown
  have hl : lv_has ls 2 [(0, .ref (ad 0)), (1, .int (nI 1))] := hl
  have hi4 : ∀ w ∈ u_ws RX4 TX4 6, w ∈ wsX6_count := by decide +kernel
  have hi6 : ∀ w ∈ u_ws RX6 TX6 8, w ∈ wsX6_count := by decide +kernel
  refine lv_iload_n hx hb dX6_count_0 rfl (lv_at hl 1 rfl) ?_
  refine lv_tableIn (tgt := 33) hx hb dX6_count_1 (by decide) (by decide) (off := 32) (by decide) (by decide) ?_
  refine lv_aload_n hx hb dX6_count_33 rfl (lv_at hl 0 rfl) ?_
  refine wg (C := RX6) (T := TX6) (N := 8) hx hb hts hi6 hown hw (hC.m (by decide)) hR.x rfl 6 (by decide) (hts (.fieldLink RX6 62 "LayerMoisture" "plan" "LLayerMoisture$Plan;") (by decide +kernel)) (fun _ h9 => h9) (v := .ref (ad 7)) rfl dX6_count_34 ?_
  refine wg (C := RX4) (T := TX4) (N := 6) hx hb hts hi4 hown hw (hC.m (by decide)) hR.pln rfl 5 (by decide) (hts (.fieldLink RX6 186 "LayerMoisture$Plan" "done" "I") (by decide +kernel)) (fun _ h9 => h9) (v := .int (nI pn.2.1)) rfl dX6_count_37 ?_
  exact hret _ _ _ _ _ _ hw ⟨rfl, rfl⟩ rfl dX6_count_40

set_option maxHeartbeats 4000000 in
set_option maxRecDepth 100000 in
theorem c_X6_count_2 (l : Launch) (G : va_G) (dA : Nat → ClassId) (L : List Nat) (f : Nat → va_E) (ad : Nat → Nat) (n nb : Nat) (q qk : Nat → Option Nat) (ai : sA) (le : sL) (bd : Nat → sB) (wt : Nat → Nat → UInt64) (kk : Nat → UInt64 × UInt64) (tt : sT) (pn : sP) (hr : Nat) (f0 : Nat → va_E)   (hC : Cx ad L n nb q qk) (hR : RC ad dA n nb q qk ai le bd wt kk tt pn hr f0 f)   : mI l yX6_count wsX6_count ({ frames := 1, cells := 0, slots := 0, locals := 22 }) G dA [.ref (ad 0), .int (nI 2)] L f (fun r f2 => r = nI (cntS bd nb pn hr 2) ∧ f2 = f) := by
  refine mI_of (cc := cX6_count) (maxL := 2) (by decide) rfl (Nat.le_of_ble_eq_true rfl) ?_
  intro p e s m below meth c A ls Q hx hb hml hown hts hlocks hA hin0 hw hl hret
  have hown : s.vm.findClass RX6 = some m.cls := hown
  have hl : lv_has ls 2 [(0, .ref (ad 0)), (1, .int (nI 2))] := hl
  refine lv_iload_n hx hb dX6_count_0 rfl (lv_at hl 1 rfl) ?_
  refine lv_tableIn (tgt := 41) hx hb dX6_count_1 (by decide) (by decide) (off := 40) (by decide) (by decide) ?_
  refine lv_aload_n hx hb dX6_count_41 rfl (lv_at hl 0 rfl) ?_
  refine kV_I (C := RX6) (T := TX6) (N := 8) (As := []) (rest := []) ⟨hx, hb, hml, hown, hts⟩ (c_X6_boardsThere l G dA L f ad n nb q qk ai le bd wt kk tt pn hr f0 hC hR) (cwV 0 hts gX6_count_X6_boardsThere rfl rfl rfl (by decide +kernel) ⟨Nat.le_of_ble_eq_true rfl, Nat.le_of_ble_eq_true rfl⟩) hw hA (hC.m (by decide)) hR.x rfl rfl hl.1 rfl (Nat.le_of_ble_eq_true rfl) dX6_count_42 ⟨Nat.zero_le _, Nat.zero_le _⟩ (fun r2 f1 H locs hp hw => ?_)
  obtain ⟨e1, e2⟩ := hp
  rw [e2] at hw
  rw [e1]
  exact hret _ _ _ _ _ _ hw ⟨rfl, rfl⟩ rfl dX6_count_45

set_option maxHeartbeats 4000000 in
set_option maxRecDepth 100000 in
theorem x1_X6_told (l : Launch) (hlt : l.stackTraces = false) (G : va_G) (dA : Nat → ClassId) (sa : Nat → Nat) (L : List Nat) (f : Nat → va_E) (ad : Nat → Nat) (n nb : Nat) (q qk : Nat → Option Nat) (ai : sA) (le : sL) (bd : Nat → sB) (wt : Nat → Nat → UInt64) (kk : Nat → UInt64 × UInt64) (tt : sT) (pn : sP) (hr : Nat) (f0 : Nat → va_E) (i : Int32)  (hC : Cx ad L n nb q qk) (hR : RC ad dA n nb q qk ai le bd wt kk tt pn hr f0 f) (hbad : i < 0 ∨ 4 < i)  : mX l yX6_told wsX6_told ({ frames := 7, cells := 1, slots := 6, locals := 95 }) G dA [.ref (ad 0), .int i] L f sa 0 := by
  refine mX_of (cc := cX6_told) (maxL := 2) (by decide) rfl (Nat.le_of_ble_eq_true rfl) ?_
  intro p e s m below meth c A ls hx hb hml hown hts hlocks hA ht hE hw hl
  have hown : s.vm.findClass RX6 = some m.cls := hown
  have hl : lv_has ls 2 [(0, .ref (ad 0)), (1, .int i)] := hl
  refine lv_iload_n hx hb dX6_told_0 rfl (lv_at hl 1 rfl) ?_
  refine lv_tableOut (tgt := 76) hx hb dX6_told_1 (i32_out rfl rfl hbad) (by decide) ?_
  exact mX_throw (k := 0) (is := 179) (text := "what is not 0 .. 4") hx hb hlt (by decide) hown hE hw ht (List.mem_of_getElem? (i := 2) (by decide)) (by rw [hml]; exact hl.1) dX6_told_76 dX6_told_79 dX6_told_80 dX6_told_82 dX6_told_85 (by decide) (Nat.le_of_ble_eq_true rfl) (by decide) (by decide) hlocks

set_option maxHeartbeats 4000000 in
set_option maxRecDepth 100000 in
theorem x1_X6_count (l : Launch) (hlt : l.stackTraces = false) (G : va_G) (dA : Nat → ClassId) (sa : Nat → Nat) (L : List Nat) (f : Nat → va_E) (ad : Nat → Nat) (n nb : Nat) (q qk : Nat → Option Nat) (ai : sA) (le : sL) (bd : Nat → sB) (wt : Nat → Nat → UInt64) (kk : Nat → UInt64 × UInt64) (tt : sT) (pn : sP) (hr : Nat) (f0 : Nat → va_E) (i : Int32)  (hC : Cx ad L n nb q qk) (hR : RC ad dA n nb q qk ai le bd wt kk tt pn hr f0 f) (hbad : i < 0 ∨ 2 < i)  : mX l yX6_count wsX6_count ({ frames := 7, cells := 1, slots := 6, locals := 95 }) G dA [.ref (ad 0), .int i] L f sa 0 := by
  refine mX_of (cc := cX6_count) (maxL := 2) (by decide) rfl (Nat.le_of_ble_eq_true rfl) ?_
  intro p e s m below meth c A ls hx hb hml hown hts hlocks hA ht hE hw hl
  have hown : s.vm.findClass RX6 = some m.cls := hown
  have hl : lv_has ls 2 [(0, .ref (ad 0)), (1, .int i)] := hl
  refine lv_iload_n hx hb dX6_count_0 rfl (lv_at hl 1 rfl) ?_
  refine lv_tableOut (tgt := 46) hx hb dX6_count_1 (i32_out rfl rfl hbad) (by decide) ?_
  exact mX_throw (k := 0) (is := 193) (text := "what is not 0 .. 2") hx hb hlt (by decide) hown hE hw ht (List.mem_of_getElem? (i := 3) (by decide)) (by rw [hml]; exact hl.1) dX6_count_46 dX6_count_49 dX6_count_50 dX6_count_52 dX6_count_55 (by decide) (Nat.le_of_ble_eq_true rfl) (by decide) (by decide) hlocks
