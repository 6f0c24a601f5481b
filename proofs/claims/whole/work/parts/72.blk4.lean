set_option maxHeartbeats 4000000 in
set_option maxRecDepth 100000 in
theorem k_balance_0 {p : Program} {l : Launch} {e : Env} {s : State} {m : MethodId} {below : List Frame} {meth : Method} {c : Code} {G : va_G} {dA : Nat → ClassId} {b Ls si : Nat} {xs : Nat → Int32} {sa ad : Nat → Nat} {L : List Nat} {nl nb : Nat} {q qk : Nat → Option Nat} {x : sR} {kk : Nat → UInt64 × UInt64} {tt : sT} {f : Nat → va_E} {H : Heap} {locs : List Loc} {ls : Array Slot} {cells slots : Nat}  (hLC : LC p l s m c meth b Ls xs G dA sa ad L nl nb q qk) (hsi : si + 5 ≤ Ls) (hc1 : cells + 1 ≤ room_1.cells) (hs1 : slots + 6 ≤ room_1.slots) (hLI : LwI ad dA nl nb q qk x kk tt f) (hhr : x.2.2.2.2.2 < 2 ^ 29) (hw : ww G dA (fun z : Nat => s.heap.size ≤ z) s L f H locs) (hl : lv_has ls 10 [(0, .ref b), (1, .ref (ad 0)), (2, .ref (ad 16)), (3, .ref (ad 32)), (4, .ref (ad 33)), (5, .int (nI si))]) 
    (kk9 : ∀ (x2 : sR) (kk2 : Nat → UInt64 × UInt64) (tt2 : sT) (f2 : Nat → va_E) (H : Heap) (locs : List Loc) (ls : Array Slot), LwI ad dA nl nb q qk x2 kk2 tt2 f2 → x2.2.2.2.2.2 ≤ x.2.2.2.2.2 + 100 → ww G dA (fun z : Nat => s.heap.size ≤ z) s L f2 H locs → lv_has ls 10 [(0, .ref b), (1, .ref (ad 0)), (2, .ref (ad 16)), (3, .ref (ad 32)), (4, .ref (ad 33)), (5, .int (nI si))] → W p l e room_1 s m #[Value.ref b] below meth c H locs (cells + 1) (slots + 6) (lw_Z below #[Value.ref b] s) (F0 m 1177 ls [])) : W p l e room_1 s m #[Value.ref b] below meth c H locs cells slots (lw_Z below #[Value.ref b] s) (F0 m 989 ls []) := by
  obtain ⟨hx, hb, hml, hown, hts, hXs, hbl, hlt, hE, hC, hLs, hret, hlocks⟩ := hLC
  have hA : ∀ z : Nat, s.heap.size ≤ z → (fun z : Nat => s.heap.size ≤ z) z := fun _ h => h
  have hbA : ¬ (fun z : Nat => s.heap.size ≤ z) b := Nat.not_le.mpr hbl
  obtain ⟨hR, ⟨thr, hM⟩, ⟨o, ho⟩, ⟨od, hd⟩, hG, htt, hTT⟩ := hLI
  obtain ⟨pa, bad, num, RA, RB, TH, DE, KI, WE, NX, LI, LM, KE, TX, BW, TI, KV, DM, hX, hMk, hMb, hMw, hMt, hMp⟩ := hM
  refine lv_aload_n hx hb dL_law_989 rfl (lv_at hl 1 rfl) ?_
  refine kV_D (C := RX6) (T := TX6) (N := 8) (As := []) (rest := []) ⟨hx, hb, hml, hown, hts⟩ (c_X6_balance l G dA L f ad (nl + 1) nb q qk x.1 x.2.1 x.2.2.1 x.2.2.2.1 kk tt x.2.2.2.2.1 x.2.2.2.2.2 f  hC hR hG.1) (cwV 0 hts gL_law_X6_balance rfl rfl rfl (by decide +kernel) ⟨Nat.le_of_ble_eq_true rfl, Nat.le_of_ble_eq_true rfl⟩) hw hA (hC.m (by decide)) hR.x rfl rfl hl.1 rfl (Nat.le_of_ble_eq_true rfl) dL_law_990 ⟨(Nat.le_trans (Nat.le_succ _) hc1), (Nat.le_trans (Nat.le_add_right _ 6) hs1)⟩ (fun r2 f1 H locs hp hw => ?_)
  obtain ⟨e1, e2⟩ := hp
  rw [e2] at hw
  rw [e1]
  refine lv_dstore (lv' := [(6, .double (sp_bal x.1.1 x.1.2.1)), (0, .ref b), (1, .ref (ad 0)), (2, .ref (ad 16)), (3, .ref (ad 32)), (4, .ref (ad 33)), (5, .int (nI si))]) hx hb dL_law_993 hl (by decide) rfl (fun ls hl => ?_)
  refine lv_aload_n hx hb dL_law_995 rfl (lv_at hl 3 rfl) ?_
  refine kV_D (C := RX7) (T := TX7) (N := 31) (As := []) (rest := []) ⟨hx, hb, hml, hown, hts⟩ (c_X7_balance l G dA L f ad (nl + 1) nb q qk ((x.1).1) ((x.1).2.1) ((x.1).2.2.1) ((x.1).2.2.2) ((x.2.1).1) ((x.2.1).2) x.2.2.2.2.2 tt.1 ((x.2.2.2.2.1).1) ((x.2.2.2.2.1).2.1) thr pa bad num RA RB TH DE KI WE NX LI LM KE TX BW TI KV DM f  hC hX hG.1) (cwV 0 hts gL_law_X7_balance rfl rfl rfl (by decide +kernel) ⟨Nat.le_of_ble_eq_true rfl, Nat.le_of_ble_eq_true rfl⟩) hw hA (hC.m (by decide)) hX.o rfl rfl hl.1 rfl (Nat.le_of_ble_eq_true rfl) dL_law_996 ⟨(Nat.le_trans (Nat.le_succ _) hc1), (Nat.le_trans (Nat.le_add_right _ 6) hs1)⟩ (fun r4 f3 H locs hp hw => ?_)
  obtain ⟨e1, hp⟩ := hp
  rw [e1]
  have hX2 : MX ad dA (nl + 1) nb ((x.1).1) ((x.1).2.1) ((x.1).2.2.1) ((x.1).2.2.2) ((x.2.1).1) ((x.2.1).2) x.2.2.2.2.2 tt.1 ((x.2.2.2.2.1).1) ((x.2.2.2.2.1).2.1) 0 pa bad num RA RB TH DE KI WE NX LI LM KE TX BW TI KV DM f f3 := hp
  refine lv_dstore (lv' := [(8, .double (sp_bal x.1.1 x.1.2.1)), (6, .double (sp_bal x.1.1 x.1.2.1)), (0, .ref b), (1, .ref (ad 0)), (2, .ref (ad 16)), (3, .ref (ad 32)), (4, .ref (ad 33)), (5, .int (nI si))]) hx hb dL_law_999 hl (by decide) rfl (fun ls hl => ?_)
  refine lv_dload hx hb dL_law_1001 (lv_at hl 1 rfl) ?_
  refine lv_dload hx hb dL_law_1003 (lv_at hl 0 rfl) ?_
  refine lv_dcmp hx hb dL_law_1005 ?_
  refine lv_if_eq (tgt := 1027) hx hb dL_law_1006 (by decide) (fun c1006 => ?_) (fun c1006 => ?_)
  · refine lv_goto (tgt := 1177) hx hb dL_law_1027 (by decide) ?_
    refine W.widen (k := cells + 1) (n := slots + 6) (by omega) (by omega) ?_
    exact kk9 x kk tt f3 _ _ ls (LwI.of (x := x) (kk := kk) (tt := tt) hR ⟨_, _, _, _, _, _, _, _, _, _, _, _, _, _, _, _, _, _, hX2, hMk, hMb, hMw, hMt, hMp⟩ ⟨_, ho⟩ ⟨_, hd⟩ hG htt hTT) (Nat.le_add_right _ _) hw (lv_sub hl [2, 3, 4, 5, 6, 7] rfl)
  · refine lv_dload hx hb dL_law_1009 (lv_at hl 1 rfl) ?_
    refine lv_dload hx hb dL_law_1011 (lv_at hl 1 rfl) ?_
    refine lv_dcmp hx hb dL_law_1013 ?_
    refine lv_if_eq (tgt := 1025) hx hb dL_law_1014 (by decide) (fun c9 => absurd c9 c1006) (fun _ => ?_)
    refine lv_dload hx hb dL_law_1017 (lv_at hl 0 rfl) ?_
    refine lv_dload hx hb dL_law_1019 (lv_at hl 0 rfl) ?_
    refine lv_dcmp hx hb dL_law_1021 ?_
    refine lv_if_ne (tgt := 1027) hx hb dL_law_1022 (by decide) (fun _ => ?_) (fun c9 => absurd c9 c1006)
    refine lv_goto (tgt := 1177) hx hb dL_law_1027 (by decide) ?_
    refine W.widen (k := cells + 1) (n := slots + 6) (by omega) (by omega) ?_
    exact kk9 x kk tt f3 _ _ ls (LwI.of (x := x) (kk := kk) (tt := tt) hR ⟨_, _, _, _, _, _, _, _, _, _, _, _, _, _, _, _, _, _, hX2, hMk, hMb, hMw, hMt, hMp⟩ ⟨_, ho⟩ ⟨_, hd⟩ hG htt hTT) (Nat.le_add_right _ _) hw (lv_sub hl [2, 3, 4, 5, 6, 7] rfl)

set_option maxHeartbeats 4000000 in
set_option maxRecDepth 100000 in
theorem k_grams_0 {p : Program} {l : Launch} {e : Env} {s : State} {m : MethodId} {below : List Frame} {meth : Method} {c : Code} {G : va_G} {dA : Nat → ClassId} {b Ls si : Nat} {xs : Nat → Int32} {sa ad : Nat → Nat} {L : List Nat} {nl nb : Nat} {q qk : Nat → Option Nat} {x : sR} {kk : Nat → UInt64 × UInt64} {tt : sT} {f : Nat → va_E} {H : Heap} {locs : List Loc} {ls : Array Slot} {cells slots : Nat}  (hLC : LC p l s m c meth b Ls xs G dA sa ad L nl nb q qk) (hsi : si + 5 ≤ Ls) (hc1 : cells + 1 ≤ room_1.cells) (hs1 : slots + 6 ≤ room_1.slots) (hLI : LwI ad dA nl nb q qk x kk tt f) (hhr : x.2.2.2.2.2 < 2 ^ 29) (hw : ww G dA (fun z : Nat => s.heap.size ≤ z) s L f H locs) (hl : lv_has ls 10 [(0, .ref b), (1, .ref (ad 0)), (2, .ref (ad 16)), (3, .ref (ad 32)), (4, .ref (ad 33)), (5, .int (nI si))]) 
    (kk9 : ∀ (x2 : sR) (kk2 : Nat → UInt64 × UInt64) (tt2 : sT) (f2 : Nat → va_E) (H : Heap) (locs : List Loc) (ls : Array Slot), LwI ad dA nl nb q qk x2 kk2 tt2 f2 → x2.2.2.2.2.2 ≤ x.2.2.2.2.2 + 100 → ww G dA (fun z : Nat => s.heap.size ≤ z) s L f2 H locs → lv_has ls 10 [(0, .ref b), (1, .ref (ad 0)), (2, .ref (ad 16)), (3, .ref (ad 32)), (4, .ref (ad 33)), (5, .int (nI si))] → W p l e room_1 s m #[Value.ref b] below meth c H locs (cells + 1) (slots + 6) (lw_Z below #[Value.ref b] s) (F0 m 1177 ls [])) : W p l e room_1 s m #[Value.ref b] below meth c H locs cells slots (lw_Z below #[Value.ref b] s) (F0 m 1107 ls []) := by
  obtain ⟨hx, hb, hml, hown, hts, hXs, hbl, hlt, hE, hC, hLs, hret, hlocks⟩ := hLC
  have hA : ∀ z : Nat, s.heap.size ≤ z → (fun z : Nat => s.heap.size ≤ z) z := fun _ h => h
  have hbA : ¬ (fun z : Nat => s.heap.size ≤ z) b := Nat.not_le.mpr hbl
  obtain ⟨hR, ⟨thr, hM⟩, ⟨o, ho⟩, ⟨od, hd⟩, hG, htt, hTT⟩ := hLI
  obtain ⟨pa, bad, num, RA, RB, TH, DE, KI, WE, NX, LI, LM, KE, TX, BW, TI, KV, DM, hX, hMk, hMb, hMw, hMt, hMp⟩ := hM
  refine lv_aload_n hx hb dL_law_1107 rfl (lv_at hl 1 rfl) ?_
  refine kV_L (C := RX6) (T := TX6) (N := 8) (As := []) (rest := []) ⟨hx, hb, hml, hown, hts⟩ (c_X6_grams l G dA L f ad (nl + 1) nb q qk x.1 x.2.1 x.2.2.1 x.2.2.2.1 kk tt x.2.2.2.2.1 x.2.2.2.2.2 f  hC hR ) (cwV 0 hts gL_law_X6_grams rfl rfl rfl (by decide +kernel) ⟨Nat.le_of_ble_eq_true rfl, Nat.le_of_ble_eq_true rfl⟩) hw hA (hC.m (by decide)) hR.x rfl rfl hl.1 rfl (Nat.le_of_ble_eq_true rfl) dL_law_1108 ⟨(Nat.le_trans (Nat.le_succ _) hc1), (Nat.le_trans (Nat.le_add_right _ 6) hs1)⟩ (fun r2 f1 H locs hp hw => ?_)
  obtain ⟨e1, e2⟩ := hp
  rw [e2] at hw
  rw [e1]
  refine lv_aload_n hx hb dL_law_1111 rfl (lv_at hl 2 rfl) ?_
  refine kV_L (C := RX7) (T := TX7) (N := 31) (As := []) (rest := [.long x.2.1.2]) ⟨hx, hb, hml, hown, hts⟩ (c_X7_grams l G dA L f ad (nl + 1) nb q qk ((x.1).1) ((x.1).2.1) ((x.1).2.2.1) ((x.1).2.2.2) ((x.2.1).1) ((x.2.1).2) x.2.2.2.2.2 tt.1 ((x.2.2.2.2.1).1) ((x.2.2.2.2.1).2.1) thr pa bad num RA RB TH DE KI WE NX LI LM KE TX BW TI KV DM f  hC hX ) (cwV 0 hts gL_law_X7_grams rfl rfl rfl (by decide +kernel) ⟨Nat.le_of_ble_eq_true rfl, Nat.le_of_ble_eq_true rfl⟩) hw hA (hC.m (by decide)) hX.o rfl rfl hl.1 rfl (Nat.le_of_ble_eq_true rfl) dL_law_1112 ⟨(Nat.le_trans (Nat.le_succ _) hc1), (Nat.le_trans (Nat.le_add_right _ 6) hs1)⟩ (fun r4 f3 H locs hp hw => ?_)
  obtain ⟨e1, hp⟩ := hp
  rw [e1]
  have hX2 : MX ad dA (nl + 1) nb ((x.1).1) ((x.1).2.1) ((x.1).2.2.1) ((x.1).2.2.2) ((x.2.1).1) ((x.2.1).2) x.2.2.2.2.2 tt.1 ((x.2.2.2.2.1).1) ((x.2.2.2.2.1).2.1) 0 pa bad num RA RB TH DE KI WE NX LI LM KE TX BW TI KV DM f f3 := hp
  refine W.lcmp hx hb dL_law_1115 ?_
  rw [lgc_self]
  refine lv_if_eq (tgt := 1177) hx hb dL_law_1116 (by decide) (fun _ => ?_) (fun c9 => absurd rfl c9)
  refine W.widen (k := cells + 1) (n := slots + 6) (by omega) (by omega) ?_
  exact kk9 x kk tt f3 _ _ ls (LwI.of (x := x) (kk := kk) (tt := tt) hR ⟨_, _, _, _, _, _, _, _, _, _, _, _, _, _, _, _, _, _, hX2, hMk, hMb, hMw, hMt, hMp⟩ ⟨_, ho⟩ ⟨_, hd⟩ hG htt hTT) (Nat.le_add_right _ _) hw (lv_sub hl [0, 1, 2, 3, 4, 5] rfl)

set_option maxHeartbeats 4000000 in
set_option maxRecDepth 100000 in
theorem k_unit_1 {p : Program} {l : Launch} {e : Env} {s : State} {m : MethodId} {below : List Frame} {meth : Method} {c : Code} {G : va_G} {dA : Nat → ClassId} {b Ls si : Nat} {xs : Nat → Int32} {sa ad : Nat → Nat} {L : List Nat} {nl nb : Nat} {q qk : Nat → Option Nat} {x : sR} {kk : Nat → UInt64 × UInt64} {tt : sT} {f : Nat → va_E} {H : Heap} {locs : List Loc} {ls : Array Slot} {cells slots : Nat}  (hLC : LC p l s m c meth b Ls xs G dA sa ad L nl nb q qk) (hsi : si + 5 ≤ Ls) (hc1 : cells + 1 ≤ room_1.cells) (hs1 : slots + 6 ≤ room_1.slots) (hLI : LwI ad dA nl nb q qk x kk tt f) (hhr : x.2.2.2.2.2 < 2 ^ 29) (hw : ww G dA (fun z : Nat => s.heap.size ≤ z) s L f H locs) (hl : lv_has ls 10 [(0, .ref b), (1, .ref (ad 0)), (2, .ref (ad 16)), (3, .ref (ad 32)), (4, .ref (ad 33)), (5, .int (nI si))]) (hap : sp_app tt.1 (xs (si + 1)) = true)
    (kk9 : ∀ (x2 : sR) (kk2 : Nat → UInt64 × UInt64) (tt2 : sT) (f2 : Nat → va_E) (H : Heap) (locs : List Loc) (ls : Array Slot), LwI ad dA nl nb q qk x2 kk2 tt2 f2 → x2.2.2.2.2.2 ≤ x.2.2.2.2.2 + 100 → ww G dA (fun z : Nat => s.heap.size ≤ z) s L f2 H locs → lv_has ls 10 [(0, .ref b), (1, .ref (ad 0)), (2, .ref (ad 16)), (3, .ref (ad 32)), (4, .ref (ad 33)), (5, .int (nI si))] → W p l e room_1 s m #[Value.ref b] below meth c H locs (cells + 1) (slots + 6) (lw_Z below #[Value.ref b] s) (F0 m 1177 ls [])) : W p l e room_1 s m #[Value.ref b] below meth c H locs cells slots (lw_Z below #[Value.ref b] s) (F0 m 526 ls []) := by
  obtain ⟨hx, hb, hml, hown, hts, hXs, hbl, hlt, hE, hC, hLs, hret, hlocks⟩ := hLC
  have hA : ∀ z : Nat, s.heap.size ≤ z → (fun z : Nat => s.heap.size ≤ z) z := fun _ h => h
  have hbA : ¬ (fun z : Nat => s.heap.size ≤ z) b := Nat.not_le.mpr hbl
  obtain ⟨hR, ⟨thr, hM⟩, ⟨o, ho⟩, ⟨od, hd⟩, hG, htt, hTT⟩ := hLI
  obtain ⟨pa, bad, num, RA, RB, TH, DE, KI, WE, NX, LI, LM, KE, TX, BW, TI, KV, DM, hX, hMk, hMb, hMw, hMt, hMp⟩ := hM
  refine lv_aload_n hx hb dL_law_526 rfl (lv_at hl 1 rfl) ?_
  refine lv_aload_n hx hb dL_law_527 rfl (lv_at hl 0 rfl) ?_
  refine lv_iload hx hb dL_law_528 (lv_at hl 5 rfl) ?_
  refine lv_iconst (v := 1) hx hb dL_law_530 (by decide) ?_
  refine lv_iadd hx hb dL_law_531 ?_
  rw [show nI si + 1 = nI (si + 1) from nI_add si 1]
  refine va_sld hx hb hXs hbl hbA hw.2.2.2 (vp_in_nI (show si + 1 < Ls by omega) (by omega)) dL_law_532 ?_
  rw [nI_clamp (show si + 1 < 2 ^ 31 by omega)]
  refine kV_I (C := RX6) (T := TX6) (N := 8) (As := [.int (xs (si + 1))]) (rest := []) ⟨hx, hb, hml, hown, hts⟩ (c_X6_unit l G dA L f ad (nl + 1) nb q qk x.1 x.2.1 x.2.2.1 x.2.2.2.1 kk tt x.2.2.2.2.1 x.2.2.2.2.2 f (xs (si + 1)) hC hR htt) (cwV 1 hts gL_law_X6_unit rfl rfl rfl (by decide +kernel) ⟨Nat.le_of_ble_eq_true rfl, Nat.le_of_ble_eq_true rfl⟩) hw hA (hC.m (by decide)) hR.x rfl rfl hl.1 rfl (Nat.le_of_ble_eq_true rfl) dL_law_533 ⟨(Nat.le_trans (Nat.le_succ _) hc1), (Nat.le_trans (Nat.le_add_right _ 6) hs1)⟩ (fun r2 f1 H locs hp hw => ?_)
  obtain ⟨e1, hp⟩ := hp
  rw [hap] at e1 hp
  rw [e1]
  have hR1 : RC ad dA (nl + 1) nb q qk x.1 x.2.1 x.2.2.1 x.2.2.2.1 kk ((tt.1 + 1, upd tt.2 tt.1 (xs (si + 1)))) x.2.2.2.2.1 x.2.2.2.2.2 f f1 := hp
  have hX3 : MX ad dA (nl + 1) nb ((x.1).1) ((x.1).2.1) ((x.1).2.2.1) ((x.1).2.2.2) ((x.2.1).1) ((x.2.1).2) x.2.2.2.2.2 tt.1 ((x.2.2.2.2.1).1) ((x.2.2.2.2.1).2.1) thr pa bad num RA RB TH DE KI WE NX LI LM KE TX BW TI KV DM f1 f1 := hX.mv (fun i h1 h2 => hR1.fr h1 (by omega)) (fun _ _ _ => rfl)
  have ho1 : f1 (ad 32) = aL (dA 4) 1 o := (hR1.fr (by omega) (by omega)).trans ho
  have hd1 : f1 (ad 33) = aD (dA 1) 1 od := (hR1.fr (by omega) (by omega)).trans hd
  refine lv_aload_n hx hb dL_law_536 rfl (lv_at hl 2 rfl) ?_
  refine lv_aload_n hx hb dL_law_537 rfl (lv_at hl 0 rfl) ?_
  refine lv_iload hx hb dL_law_538 (lv_at hl 5 rfl) ?_
  refine lv_iconst (v := 1) hx hb dL_law_540 (by decide) ?_
  refine lv_iadd hx hb dL_law_541 ?_
  rw [show nI si + 1 = nI (si + 1) from nI_add si 1]
  refine va_sld hx hb hXs hbl hbA hw.2.2.2 (vp_in_nI (show si + 1 < Ls by omega) (by omega)) dL_law_542 ?_
  rw [nI_clamp (show si + 1 < 2 ^ 31 by omega)]
  refine kV_I (C := RX7) (T := TX7) (N := 31) (As := [.int (xs (si + 1))]) (rest := [.int (b2i true)]) ⟨hx, hb, hml, hown, hts⟩ (c_X7_unit l G dA L f1 ad (nl + 1) nb q qk ((x.1).1) ((x.1).2.1) ((x.1).2.2.1) ((x.1).2.2.2) ((x.2.1).1) ((x.2.1).2) x.2.2.2.2.2 tt.1 ((x.2.2.2.2.1).1) ((x.2.2.2.2.1).2.1) thr pa bad num RA RB TH DE KI WE NX LI LM KE TX BW TI KV DM f1 (xs (si + 1)) hC hX3 htt) (cwV 1 hts gL_law_X7_unit rfl rfl rfl (by decide +kernel) ⟨Nat.le_of_ble_eq_true rfl, Nat.le_of_ble_eq_true rfl⟩) hw hA (hC.m (by decide)) hX3.o rfl rfl hl.1 rfl (Nat.le_of_ble_eq_true rfl) dL_law_543 ⟨(Nat.le_trans (Nat.le_succ _) hc1), (Nat.le_trans (Nat.le_add_right _ 6) hs1)⟩ (fun r5 f4 H locs hp hw => ?_)
  obtain ⟨e1, hp⟩ := hp
  rw [hap] at e1 hp
  rw [e1]
  have hX2 : MX ad dA (nl + 1) nb ((x.1).1) ((x.1).2.1) ((x.1).2.2.1) ((x.1).2.2.2) ((x.2.1).1) ((x.2.1).2) x.2.2.2.2.2 (tt.1 + 1) ((x.2.2.2.2.1).1) ((x.2.2.2.2.1).2.1) 0 pa bad num RA RB TH DE KI WE NX LI LM KE (upd TX tt.1 (xs (si + 1))) BW TI KV DM f1 f4 := hp
  refine lv_icmp_eq (tgt := 1177) hx hb dL_law_546 (by decide) (fun _ => ?_) (fun c9 => absurd rfl c9)
  refine W.widen (k := cells + 1) (n := slots + 6) (by omega) (by omega) ?_
  exact kk9 x kk ((tt.1 + 1, upd tt.2 tt.1 (xs (si + 1)))) f4 _ _ ls (LwI.of (x := x) (kk := kk) (tt := (tt.1 + 1, upd tt.2 tt.1 (xs (si + 1)))) hR1 ⟨_, _, _, _, _, _, _, _, _, _, _, _, _, _, _, _, _, _, hX2, hMk, hMb, hMw, hMt.app _, hMp⟩ ⟨_, ho1⟩ ⟨_, hd1⟩ hG (hTT.app hap).1 (hTT.app hap).2) (Nat.le_add_right _ _) hw (lv_sub hl [0, 1, 2, 3, 4, 5] rfl)

set_option maxHeartbeats 4000000 in
set_option maxRecDepth 100000 in
theorem k_unit_0 {p : Program} {l : Launch} {e : Env} {s : State} {m : MethodId} {below : List Frame} {meth : Method} {c : Code} {G : va_G} {dA : Nat → ClassId} {b Ls si : Nat} {xs : Nat → Int32} {sa ad : Nat → Nat} {L : List Nat} {nl nb : Nat} {q qk : Nat → Option Nat} {x : sR} {kk : Nat → UInt64 × UInt64} {tt : sT} {f : Nat → va_E} {H : Heap} {locs : List Loc} {ls : Array Slot} {cells slots : Nat}  (hLC : LC p l s m c meth b Ls xs G dA sa ad L nl nb q qk) (hsi : si + 5 ≤ Ls) (hc1 : cells + 1 ≤ room_1.cells) (hs1 : slots + 6 ≤ room_1.slots) (hLI : LwI ad dA nl nb q qk x kk tt f) (hhr : x.2.2.2.2.2 < 2 ^ 29) (hw : ww G dA (fun z : Nat => s.heap.size ≤ z) s L f H locs) (hl : lv_has ls 10 [(0, .ref b), (1, .ref (ad 0)), (2, .ref (ad 16)), (3, .ref (ad 32)), (4, .ref (ad 33)), (5, .int (nI si))]) (hap : sp_app tt.1 (xs (si + 1)) = false)
    (kk9 : ∀ (x2 : sR) (kk2 : Nat → UInt64 × UInt64) (tt2 : sT) (f2 : Nat → va_E) (H : Heap) (locs : List Loc) (ls : Array Slot), LwI ad dA nl nb q qk x2 kk2 tt2 f2 → x2.2.2.2.2.2 ≤ x.2.2.2.2.2 + 100 → ww G dA (fun z : Nat => s.heap.size ≤ z) s L f2 H locs → lv_has ls 10 [(0, .ref b), (1, .ref (ad 0)), (2, .ref (ad 16)), (3, .ref (ad 32)), (4, .ref (ad 33)), (5, .int (nI si))] → W p l e room_1 s m #[Value.ref b] below meth c H locs (cells + 1) (slots + 6) (lw_Z below #[Value.ref b] s) (F0 m 1177 ls [])) : W p l e room_1 s m #[Value.ref b] below meth c H locs cells slots (lw_Z below #[Value.ref b] s) (F0 m 526 ls []) := by
  obtain ⟨hx, hb, hml, hown, hts, hXs, hbl, hlt, hE, hC, hLs, hret, hlocks⟩ := hLC
  have hA : ∀ z : Nat, s.heap.size ≤ z → (fun z : Nat => s.heap.size ≤ z) z := fun _ h => h
  have hbA : ¬ (fun z : Nat => s.heap.size ≤ z) b := Nat.not_le.mpr hbl
  obtain ⟨hR, ⟨thr, hM⟩, ⟨o, ho⟩, ⟨od, hd⟩, hG, htt, hTT⟩ := hLI
  obtain ⟨pa, bad, num, RA, RB, TH, DE, KI, WE, NX, LI, LM, KE, TX, BW, TI, KV, DM, hX, hMk, hMb, hMw, hMt, hMp⟩ := hM
  refine lv_aload_n hx hb dL_law_526 rfl (lv_at hl 1 rfl) ?_
  refine lv_aload_n hx hb dL_law_527 rfl (lv_at hl 0 rfl) ?_
  refine lv_iload hx hb dL_law_528 (lv_at hl 5 rfl) ?_
  refine lv_iconst (v := 1) hx hb dL_law_530 (by decide) ?_
  refine lv_iadd hx hb dL_law_531 ?_
  rw [show nI si + 1 = nI (si + 1) from nI_add si 1]
  refine va_sld hx hb hXs hbl hbA hw.2.2.2 (vp_in_nI (show si + 1 < Ls by omega) (by omega)) dL_law_532 ?_
  rw [nI_clamp (show si + 1 < 2 ^ 31 by omega)]
  refine kV_I (C := RX6) (T := TX6) (N := 8) (As := [.int (xs (si + 1))]) (rest := []) ⟨hx, hb, hml, hown, hts⟩ (c_X6_unit l G dA L f ad (nl + 1) nb q qk x.1 x.2.1 x.2.2.1 x.2.2.2.1 kk tt x.2.2.2.2.1 x.2.2.2.2.2 f (xs (si + 1)) hC hR htt) (cwV 1 hts gL_law_X6_unit rfl rfl rfl (by decide +kernel) ⟨Nat.le_of_ble_eq_true rfl, Nat.le_of_ble_eq_true rfl⟩) hw hA (hC.m (by decide)) hR.x rfl rfl hl.1 rfl (Nat.le_of_ble_eq_true rfl) dL_law_533 ⟨(Nat.le_trans (Nat.le_succ _) hc1), (Nat.le_trans (Nat.le_add_right _ 6) hs1)⟩ (fun r2 f1 H locs hp hw => ?_)
  obtain ⟨e1, hp⟩ := hp
  rw [hap] at e1 hp
  rw [e1]
  have hR1 : RC ad dA (nl + 1) nb q qk x.1 x.2.1 x.2.2.1 x.2.2.2.1 kk tt x.2.2.2.2.1 x.2.2.2.2.2 f f1 := hp
  have hX3 : MX ad dA (nl + 1) nb ((x.1).1) ((x.1).2.1) ((x.1).2.2.1) ((x.1).2.2.2) ((x.2.1).1) ((x.2.1).2) x.2.2.2.2.2 tt.1 ((x.2.2.2.2.1).1) ((x.2.2.2.2.1).2.1) thr pa bad num RA RB TH DE KI WE NX LI LM KE TX BW TI KV DM f1 f1 := hX.mv (fun i h1 h2 => hR1.fr h1 (by omega)) (fun _ _ _ => rfl)
  have ho1 : f1 (ad 32) = aL (dA 4) 1 o := (hR1.fr (by omega) (by omega)).trans ho
  have hd1 : f1 (ad 33) = aD (dA 1) 1 od := (hR1.fr (by omega) (by omega)).trans hd
  refine lv_aload_n hx hb dL_law_536 rfl (lv_at hl 2 rfl) ?_
  refine lv_aload_n hx hb dL_law_537 rfl (lv_at hl 0 rfl) ?_
  refine lv_iload hx hb dL_law_538 (lv_at hl 5 rfl) ?_
  refine lv_iconst (v := 1) hx hb dL_law_540 (by decide) ?_
  refine lv_iadd hx hb dL_law_541 ?_
  rw [show nI si + 1 = nI (si + 1) from nI_add si 1]
  refine va_sld hx hb hXs hbl hbA hw.2.2.2 (vp_in_nI (show si + 1 < Ls by omega) (by omega)) dL_law_542 ?_
  rw [nI_clamp (show si + 1 < 2 ^ 31 by omega)]
  refine kV_I (C := RX7) (T := TX7) (N := 31) (As := [.int (xs (si + 1))]) (rest := [.int (b2i false)]) ⟨hx, hb, hml, hown, hts⟩ (c_X7_unit l G dA L f1 ad (nl + 1) nb q qk ((x.1).1) ((x.1).2.1) ((x.1).2.2.1) ((x.1).2.2.2) ((x.2.1).1) ((x.2.1).2) x.2.2.2.2.2 tt.1 ((x.2.2.2.2.1).1) ((x.2.2.2.2.1).2.1) thr pa bad num RA RB TH DE KI WE NX LI LM KE TX BW TI KV DM f1 (xs (si + 1)) hC hX3 htt) (cwV 1 hts gL_law_X7_unit rfl rfl rfl (by decide +kernel) ⟨Nat.le_of_ble_eq_true rfl, Nat.le_of_ble_eq_true rfl⟩) hw hA (hC.m (by decide)) hX3.o rfl rfl hl.1 rfl (Nat.le_of_ble_eq_true rfl) dL_law_543 ⟨(Nat.le_trans (Nat.le_succ _) hc1), (Nat.le_trans (Nat.le_add_right _ 6) hs1)⟩ (fun r5 f4 H locs hp hw => ?_)
  obtain ⟨e1, hp⟩ := hp
  rw [hap] at e1 hp
  rw [e1]
  have hX2 : MX ad dA (nl + 1) nb ((x.1).1) ((x.1).2.1) ((x.1).2.2.1) ((x.1).2.2.2) ((x.2.1).1) ((x.2.1).2) x.2.2.2.2.2 tt.1 ((x.2.2.2.2.1).1) ((x.2.2.2.2.1).2.1) 0 pa bad num RA RB TH DE KI WE NX LI LM KE TX BW TI KV DM f1 f4 := hp
  refine lv_icmp_eq (tgt := 1177) hx hb dL_law_546 (by decide) (fun _ => ?_) (fun c9 => absurd rfl c9)
  refine W.widen (k := cells + 1) (n := slots + 6) (by omega) (by omega) ?_
  exact kk9 x kk tt f4 _ _ ls (LwI.of (x := x) (kk := kk) (tt := tt) hR1 ⟨_, _, _, _, _, _, _, _, _, _, _, _, _, _, _, _, _, _, hX2, hMk, hMb, hMw, hMt, hMp⟩ ⟨_, ho1⟩ ⟨_, hd1⟩ hG htt hTT) (Nat.le_add_right _ _) hw (lv_sub hl [0, 1, 2, 3, 4, 5] rfl)

set_option maxHeartbeats 4000000 in
set_option maxRecDepth 100000 in
theorem k_schedule_l {p : Program} {l : Launch} {e : Env} {s : State} {m : MethodId} {below : List Frame} {meth : Method} {c : Code} {G : va_G} {dA : Nat → ClassId} {b Ls si : Nat} {xs : Nat → Int32} {sa ad : Nat → Nat} {L : List Nat} {nl nb : Nat} {q qk : Nat → Option Nat} {x : sR} {kk : Nat → UInt64 × UInt64} {tt : sT} {f : Nat → va_E} {H : Heap} {locs : List Loc} {ls : Array Slot} {cells slots : Nat} (p9 : Nat) (hLC : LC p l s m c meth b Ls xs G dA sa ad L nl nb q qk) (hsi : si + 5 ≤ Ls) (hc1 : cells + 1 ≤ room_1.cells) (hs1 : slots + 6 ≤ room_1.slots) (hLI : LwI ad dA nl nb q qk x kk tt f) (hhr : x.2.2.2.2.2 < 2 ^ 29) (hw : ww G dA (fun z : Nat => s.heap.size ≤ z) s L f H locs) (hl : lv_has ls 10 [(0, .ref b), (1, .ref (ad 0)), (2, .ref (ad 16)), (3, .ref (ad 32)), (4, .ref (ad 33)), (5, .int (nI si))]) (hst : stepsP tt.2 tt.1 12 true 0 = .inl p9)
    (kk9 : ∀ (x2 : sR) (kk2 : Nat → UInt64 × UInt64) (tt2 : sT) (f2 : Nat → va_E) (H : Heap) (locs : List Loc) (ls : Array Slot), LwI ad dA nl nb q qk x2 kk2 tt2 f2 → x2.2.2.2.2.2 ≤ x.2.2.2.2.2 + 100 → ww G dA (fun z : Nat => s.heap.size ≤ z) s L f2 H locs → lv_has ls 10 [(0, .ref b), (1, .ref (ad 0)), (2, .ref (ad 16)), (3, .ref (ad 32)), (4, .ref (ad 33)), (5, .int (nI si))] → W p l e room_1 s m #[Value.ref b] below meth c H locs (cells + 1) (slots + 6) (lw_Z below #[Value.ref b] s) (F0 m 1177 ls [])) : W p l e room_1 s m #[Value.ref b] below meth c H locs cells slots (lw_Z below #[Value.ref b] s) (F0 m 551 ls []) := by
  obtain ⟨hx, hb, hml, hown, hts, hXs, hbl, hlt, hE, hC, hLs, hret, hlocks⟩ := hLC
  have hA : ∀ z : Nat, s.heap.size ≤ z → (fun z : Nat => s.heap.size ≤ z) z := fun _ h => h
  have hbA : ¬ (fun z : Nat => s.heap.size ≤ z) b := Nat.not_le.mpr hbl
  obtain ⟨hR, ⟨thr, hM⟩, ⟨o, ho⟩, ⟨od, hd⟩, hG, htt, hTT⟩ := hLI
  obtain ⟨pa, bad, num, RA, RB, TH, DE, KI, WE, NX, LI, LM, KE, TX, BW, TI, KV, DM, hX, hMk, hMb, hMw, hMt, hMp⟩ := hM
  refine lv_aload_n hx hb dL_law_551 rfl (lv_at hl 1 rfl) ?_
  refine kV_I (C := RX6) (T := TX6) (N := 8) (As := []) (rest := []) ⟨hx, hb, hml, hown, hts⟩ (c_X6_schedule l G dA L f ad (nl + 1) nb q qk x.1 x.2.1 x.2.2.1 x.2.2.2.1 kk tt x.2.2.2.2.1 x.2.2.2.2.2 f  hC hR htt hTT) (cwV 0 hts gL_law_X6_schedule rfl rfl rfl (by decide +kernel) ⟨Nat.le_of_ble_eq_true rfl, Nat.le_of_ble_eq_true rfl⟩) hw hA (hC.m (by decide)) hR.x rfl rfl hl.1 rfl (Nat.le_of_ble_eq_true rfl) dL_law_552 ⟨(Nat.le_trans (Nat.le_succ _) hc1), (Nat.le_trans (Nat.le_add_right _ 6) hs1)⟩ (fun r2 f1 H locs hp hw => ?_)
  obtain ⟨B2, T2, K2, D2, st2, hp, hm⟩ := hp
  rw [hst] at hm
  obtain ⟨e1, e2⟩ := hm
  subst e2
  rw [e1]
  have hR1 : RC ad dA (nl + 1) nb q qk x.1 x.2.1 x.2.2.1 x.2.2.2.1 kk ((0, tt.2)) ((0, 0, B2, T2, K2, D2)) x.2.2.2.2.2 f f1 := hp
  have hX3 : MX ad dA (nl + 1) nb ((x.1).1) ((x.1).2.1) ((x.1).2.2.1) ((x.1).2.2.2) ((x.2.1).1) ((x.2.1).2) x.2.2.2.2.2 tt.1 ((x.2.2.2.2.1).1) ((x.2.2.2.2.1).2.1) thr pa bad num RA RB TH DE KI WE NX LI LM KE TX BW TI KV DM f1 f1 := hX.mv (fun i h1 h2 => hR1.fr h1 (by omega)) (fun _ _ _ => rfl)
  have ho1 : f1 (ad 32) = aL (dA 4) 1 o := (hR1.fr (by omega) (by omega)).trans ho
  have hd1 : f1 (ad 33) = aD (dA 1) 1 od := (hR1.fr (by omega) (by omega)).trans hd
  refine lv_aload_n hx hb dL_law_555 rfl (lv_at hl 2 rfl) ?_
  refine kV_I (C := RX7) (T := TX7) (N := 31) (As := []) (rest := [.int (-1 - nI p9)]) ⟨hx, hb, hml, hown, hts⟩ (c_X7_schedule l G dA L f1 ad (nl + 1) nb q qk ((x.1).1) ((x.1).2.1) ((x.1).2.2.1) ((x.1).2.2.2) ((x.2.1).1) ((x.2.1).2) x.2.2.2.2.2 tt.1 ((x.2.2.2.2.1).1) ((x.2.2.2.2.1).2.1) thr pa bad num RA RB TH DE KI WE NX LI LM KE TX BW TI KV DM f1  hC hX3 htt) (cwV 0 hts gL_law_X7_schedule rfl rfl rfl (by decide +kernel) ⟨Nat.le_of_ble_eq_true rfl, Nat.le_of_ble_eq_true rfl⟩) hw hA (hC.m (by decide)) hX3.o rfl rfl hl.1 rfl (Nat.le_of_ble_eq_true rfl) dL_law_556 ⟨(Nat.le_trans (Nat.le_succ _) hc1), (Nat.le_trans (Nat.le_add_right _ 6) hs1)⟩ (fun r5 f4 H locs hp hw => ?_)
  obtain ⟨pa2, bad2, num2, st3, BW2, TI2, KV2, DM2, hp, hm⟩ := hp
  rw [stepsP_congr hMt, hst] at hm
  obtain ⟨e1, e2⟩ := hm
  subst e2
  rw [e1]
  have hX2 : MX ad dA (nl + 1) nb ((x.1).1) ((x.1).2.1) ((x.1).2.2.1) ((x.1).2.2.2) ((x.2.1).1) ((x.2.1).2) x.2.2.2.2.2 0 0 0 0 pa2 bad2 num2 RA RB TH DE KI WE NX LI LM KE TX BW2 TI2 KV2 DM2 f1 f4 := hp
  refine lv_icmp_eq (tgt := 1177) hx hb dL_law_559 (by decide) (fun _ => ?_) (fun c9 => absurd rfl c9)
  refine W.widen (k := cells + 1) (n := slots + 6) (by omega) (by omega) ?_
  exact kk9 ((x.1, x.2.1, x.2.2.1, x.2.2.2.1, (0, 0, B2, T2, K2, D2), x.2.2.2.2.2)) kk ((0, tt.2)) f4 _ _ ls (LwI.of (x := (x.1, x.2.1, x.2.2.1, x.2.2.2.1, (0, 0, B2, T2, K2, D2), x.2.2.2.2.2)) (kk := kk) (tt := (0, tt.2)) hR1 ⟨_, _, _, _, _, _, _, _, _, _, _, _, _, _, _, _, _, _, hX2, hMk, hMb, hMw, (fun z hz => absurd hz (Nat.not_lt_zero z)), (MGp_0 _ _ _ _ _ _ _ _)⟩ ⟨_, ho1⟩ ⟨_, hd1⟩ (hG.plan (GP_0 _ _ _ _)) (Nat.zero_le _) (fun z hz => absurd hz (Nat.not_lt_zero z))) (Nat.le_add_right _ _) hw (lv_sub hl [0, 1, 2, 3, 4, 5] rfl)

set_option maxHeartbeats 4000000 in
set_option maxRecDepth 100000 in
theorem k_schedule_r {p : Program} {l : Launch} {e : Env} {s : State} {m : MethodId} {below : List Frame} {meth : Method} {c : Code} {G : va_G} {dA : Nat → ClassId} {b Ls si : Nat} {xs : Nat → Int32} {sa ad : Nat → Nat} {L : List Nat} {nl nb : Nat} {q qk : Nat → Option Nat} {x : sR} {kk : Nat → UInt64 × UInt64} {tt : sT} {f : Nat → va_E} {H : Heap} {locs : List Loc} {ls : Array Slot} {cells slots : Nat} (l9 : List St4) (hLC : LC p l s m c meth b Ls xs G dA sa ad L nl nb q qk) (hsi : si + 5 ≤ Ls) (hc1 : cells + 1 ≤ room_1.cells) (hs1 : slots + 6 ≤ room_1.slots) (hLI : LwI ad dA nl nb q qk x kk tt f) (hhr : x.2.2.2.2.2 < 2 ^ 29) (hw : ww G dA (fun z : Nat => s.heap.size ≤ z) s L f H locs) (hl : lv_has ls 10 [(0, .ref b), (1, .ref (ad 0)), (2, .ref (ad 16)), (3, .ref (ad 32)), (4, .ref (ad 33)), (5, .int (nI si))]) (hst : stepsP tt.2 tt.1 12 true 0 = .inr l9)
    (kk9 : ∀ (x2 : sR) (kk2 : Nat → UInt64 × UInt64) (tt2 : sT) (f2 : Nat → va_E) (H : Heap) (locs : List Loc) (ls : Array Slot), LwI ad dA nl nb q qk x2 kk2 tt2 f2 → x2.2.2.2.2.2 ≤ x.2.2.2.2.2 + 100 → ww G dA (fun z : Nat => s.heap.size ≤ z) s L f2 H locs → lv_has ls 10 [(0, .ref b), (1, .ref (ad 0)), (2, .ref (ad 16)), (3, .ref (ad 32)), (4, .ref (ad 33)), (5, .int (nI si))] → W p l e room_1 s m #[Value.ref b] below meth c H locs (cells + 1) (slots + 6) (lw_Z below #[Value.ref b] s) (F0 m 1177 ls [])) : W p l e room_1 s m #[Value.ref b] below meth c H locs cells slots (lw_Z below #[Value.ref b] s) (F0 m 551 ls []) := by
  obtain ⟨hx, hb, hml, hown, hts, hXs, hbl, hlt, hE, hC, hLs, hret, hlocks⟩ := hLC
  have hA : ∀ z : Nat, s.heap.size ≤ z → (fun z : Nat => s.heap.size ≤ z) z := fun _ h => h
  have hbA : ¬ (fun z : Nat => s.heap.size ≤ z) b := Nat.not_le.mpr hbl
  obtain ⟨hR, ⟨thr, hM⟩, ⟨o, ho⟩, ⟨od, hd⟩, hG, htt, hTT⟩ := hLI
  obtain ⟨pa, bad, num, RA, RB, TH, DE, KI, WE, NX, LI, LM, KE, TX, BW, TI, KV, DM, hX, hMk, hMb, hMw, hMt, hMp⟩ := hM
  refine lv_aload_n hx hb dL_law_551 rfl (lv_at hl 1 rfl) ?_
  refine kV_I (C := RX6) (T := TX6) (N := 8) (As := []) (rest := []) ⟨hx, hb, hml, hown, hts⟩ (c_X6_schedule l G dA L f ad (nl + 1) nb q qk x.1 x.2.1 x.2.2.1 x.2.2.2.1 kk tt x.2.2.2.2.1 x.2.2.2.2.2 f  hC hR htt hTT) (cwV 0 hts gL_law_X6_schedule rfl rfl rfl (by decide +kernel) ⟨Nat.le_of_ble_eq_true rfl, Nat.le_of_ble_eq_true rfl⟩) hw hA (hC.m (by decide)) hR.x rfl rfl hl.1 rfl (Nat.le_of_ble_eq_true rfl) dL_law_552 ⟨(Nat.le_trans (Nat.le_succ _) hc1), (Nat.le_trans (Nat.le_add_right _ 6) hs1)⟩ (fun r2 f1 H locs hp hw => ?_)
  obtain ⟨B2, T2, K2, D2, st2, hp, hm⟩ := hp
  rw [hst] at hm
  obtain ⟨e1, e2, hrow⟩ := hm
  subst e2
  rw [e1]
  have hR1 : RC ad dA (nl + 1) nb q qk x.1 x.2.1 x.2.2.1 x.2.2.2.1 kk ((0, tt.2)) ((l9.length, 0, B2, T2, K2, D2)) x.2.2.2.2.2 f f1 := hp
  have hX3 : MX ad dA (nl + 1) nb ((x.1).1) ((x.1).2.1) ((x.1).2.2.1) ((x.1).2.2.2) ((x.2.1).1) ((x.2.1).2) x.2.2.2.2.2 tt.1 ((x.2.2.2.2.1).1) ((x.2.2.2.2.1).2.1) thr pa bad num RA RB TH DE KI WE NX LI LM KE TX BW TI KV DM f1 f1 := hX.mv (fun i h1 h2 => hR1.fr h1 (by omega)) (fun _ _ _ => rfl)
  have ho1 : f1 (ad 32) = aL (dA 4) 1 o := (hR1.fr (by omega) (by omega)).trans ho
  have hd1 : f1 (ad 33) = aD (dA 1) 1 od := (hR1.fr (by omega) (by omega)).trans hd
  refine lv_aload_n hx hb dL_law_555 rfl (lv_at hl 2 rfl) ?_
  refine kV_I (C := RX7) (T := TX7) (N := 31) (As := []) (rest := [.int (nI l9.length)]) ⟨hx, hb, hml, hown, hts⟩ (c_X7_schedule l G dA L f1 ad (nl + 1) nb q qk ((x.1).1) ((x.1).2.1) ((x.1).2.2.1) ((x.1).2.2.2) ((x.2.1).1) ((x.2.1).2) x.2.2.2.2.2 tt.1 ((x.2.2.2.2.1).1) ((x.2.2.2.2.1).2.1) thr pa bad num RA RB TH DE KI WE NX LI LM KE TX BW TI KV DM f1  hC hX3 htt) (cwV 0 hts gL_law_X7_schedule rfl rfl rfl (by decide +kernel) ⟨Nat.le_of_ble_eq_true rfl, Nat.le_of_ble_eq_true rfl⟩) hw hA (hC.m (by decide)) hX3.o rfl rfl hl.1 rfl (Nat.le_of_ble_eq_true rfl) dL_law_556 ⟨(Nat.le_trans (Nat.le_succ _) hc1), (Nat.le_trans (Nat.le_add_right _ 6) hs1)⟩ (fun r5 f4 H locs hp hw => ?_)
  obtain ⟨pa2, bad2, num2, st3, BW2, TI2, KV2, DM2, hp, hm⟩ := hp
  rw [stepsP_congr hMt, hst] at hm
  obtain ⟨e1, e2, hmr⟩ := hm
  subst e2
  rw [e1]
  have hX2 : MX ad dA (nl + 1) nb ((x.1).1) ((x.1).2.1) ((x.1).2.2.1) ((x.1).2.2.2) ((x.2.1).1) ((x.2.1).2) x.2.2.2.2.2 0 l9.length 0 0 pa2 bad2 num2 RA RB TH DE KI WE NX LI LM KE TX BW2 TI2 KV2 DM2 f1 f4 := hp
  refine lv_icmp_eq (tgt := 1177) hx hb dL_law_559 (by decide) (fun _ => ?_) (fun c9 => absurd rfl c9)
  refine W.widen (k := cells + 1) (n := slots + 6) (by omega) (by omega) ?_
  exact kk9 ((x.1, x.2.1, x.2.2.1, x.2.2.2.1, (l9.length, 0, B2, T2, K2, D2), x.2.2.2.2.2)) kk ((0, tt.2)) f4 _ _ ls (LwI.of (x := (x.1, x.2.1, x.2.2.1, x.2.2.2.1, (l9.length, 0, B2, T2, K2, D2), x.2.2.2.2.2)) (kk := kk) (tt := (0, tt.2)) hR1 ⟨_, _, _, _, _, _, _, _, _, _, _, _, _, _, _, _, _, _, hX2, hMk, hMb, hMw, (fun z hz => absurd hz (Nat.not_lt_zero z)), (MGp_rows hrow hmr 0)⟩ ⟨_, ho1⟩ ⟨_, hd1⟩ (hG.plan (GP_rows hst hrow)) (Nat.zero_le _) (fun z hz => absurd hz (Nat.not_lt_zero z))) (Nat.le_add_right _ _) hw (lv_sub hl [0, 1, 2, 3, 4, 5] rfl)

set_option maxHeartbeats 4000000 in
set_option maxRecDepth 100000 in
theorem k_run_1 {p : Program} {l : Launch} {e : Env} {s : State} {m : MethodId} {below : List Frame} {meth : Method} {c : Code} {G : va_G} {dA : Nat → ClassId} {b Ls si : Nat} {xs : Nat → Int32} {sa ad : Nat → Nat} {L : List Nat} {nl nb : Nat} {q qk : Nat → Option Nat} {x : sR} {kk : Nat → UInt64 × UInt64} {tt : sT} {f : Nat → va_E} {H : Heap} {locs : List Loc} {ls : Array Slot} {cells slots : Nat}  (hLC : LC p l s m c meth b Ls xs G dA sa ad L nl nb q qk) (hsi : si + 5 ≤ Ls) (hc1 : cells + 1 ≤ room_1.cells) (hs1 : slots + 6 ≤ room_1.slots) (hLI : LwI ad dA nl nb q qk x kk tt f) (hhr : x.2.2.2.2.2 < 2 ^ 29) (hw : ww G dA (fun z : Nat => s.heap.size ≤ z) s L f H locs) (hl : lv_has ls 10 [(0, .ref b), (1, .ref (ad 0)), (2, .ref (ad 16)), (3, .ref (ad 32)), (4, .ref (ad 33)), (5, .int (nI si))]) (hbad : xs (si + 1) < 0 ∨ 100 < xs (si + 1))
    (kk9 : ∀ (x2 : sR) (kk2 : Nat → UInt64 × UInt64) (tt2 : sT) (f2 : Nat → va_E) (H : Heap) (locs : List Loc) (ls : Array Slot), LwI ad dA nl nb q qk x2 kk2 tt2 f2 → x2.2.2.2.2.2 ≤ x.2.2.2.2.2 + 100 → ww G dA (fun z : Nat => s.heap.size ≤ z) s L f2 H locs → lv_has ls 10 [(0, .ref b), (1, .ref (ad 0)), (2, .ref (ad 16)), (3, .ref (ad 32)), (4, .ref (ad 33)), (5, .int (nI si))] → W p l e room_1 s m #[Value.ref b] below meth c H locs (cells + 1) (slots + 6) (lw_Z below #[Value.ref b] s) (F0 m 1177 ls [])) : W p l e room_1 s m #[Value.ref b] below meth c H locs cells slots (lw_Z below #[Value.ref b] s) (F0 m 564 ls []) := by
  obtain ⟨hx, hb, hml, hown, hts, hXs, hbl, hlt, hE, hC, hLs, hret, hlocks⟩ := hLC
  have hA : ∀ z : Nat, s.heap.size ≤ z → (fun z : Nat => s.heap.size ≤ z) z := fun _ h => h
  have hbA : ¬ (fun z : Nat => s.heap.size ≤ z) b := Nat.not_le.mpr hbl
  obtain ⟨hR, ⟨thr, hM⟩, ⟨o, ho⟩, ⟨od, hd⟩, hG, htt, hTT⟩ := hLI
  obtain ⟨pa, bad, num, RA, RB, TH, DE, KI, WE, NX, LI, LM, KE, TX, BW, TI, KV, DM, hX, hMk, hMb, hMw, hMt, hMp⟩ := hM
  refine lv_aload_n hx hb dL_law_564 rfl (lv_at hl 1 rfl) ?_
  refine lv_aload_n hx hb dL_law_565 rfl (lv_at hl 0 rfl) ?_
  refine lv_iload hx hb dL_law_566 (lv_at hl 5 rfl) ?_
  refine lv_iconst (v := 1) hx hb dL_law_568 (by decide) ?_
  refine lv_iadd hx hb dL_law_569 ?_
  rw [show nI si + 1 = nI (si + 1) from nI_add si 1]
  refine va_sld hx hb hXs hbl hbA hw.2.2.2 (vp_in_nI (show si + 1 < Ls by omega) (by omega)) dL_law_570 ?_
  rw [nI_clamp (show si + 1 < 2 ^ 31 by omega)]
  refine lv_aload_n hx hb dL_law_571 rfl (lv_at hl 3 rfl) ?_
  refine kH (As := [.ref (ad 0), .int (xs (si + 1)), .ref (ad 32)]) (rest := []) ⟨hx, hb, hml, hown, hts⟩ (h_x1_X6_run l hlt G dA sa L f ad (nl + 1) nb q qk x.1 x.2.1 x.2.2.1 x.2.2.2.1 kk tt x.2.2.2.2.1 x.2.2.2.2.2 (xs (si + 1)) hC hR hbad o ho) (vx_cwSW 3 hts gL_law_L_run rfl rfl rfl (by decide +kernel) ⟨Nat.le_of_ble_eq_true rfl, Nat.le_of_ble_eq_true rfl⟩) hw hE hA rfl hl.1 rfl (Nat.le_of_ble_eq_true rfl) dL_law_572 ⟨hc1, hs1⟩ (fun r2 f1 H locs hp hw => ?_)
  obtain ⟨e1, e2⟩ := hp
  rw [e2] at hw
  rw [e1]
  refine lv_istore (lv' := [(6, .int 1), (0, .ref b), (1, .ref (ad 0)), (2, .ref (ad 16)), (3, .ref (ad 32)), (4, .ref (ad 33)), (5, .int (nI si))]) hx hb dL_law_575 hl (by decide) rfl (fun ls hl => ?_)
  refine lv_aload_n hx hb dL_law_577 rfl (lv_at hl 3 rfl) ?_
  refine lv_aload_n hx hb dL_law_578 rfl (lv_at hl 1 rfl) ?_
  refine lv_iload hx hb dL_law_579 (lv_at hl 6 rfl) ?_
  refine lv_iconst (v := 1) hx hb dL_law_581 (by decide) ?_
  refine lv_iadd hx hb dL_law_582 ?_
  rw [show nI si + 1 = nI (si + 1) from nI_add si 1]
  refine va_sld hx hb hXs hbl hbA hw.2.2.2 (vp_in_nI (show si + 1 < Ls by omega) (by omega)) dL_law_583 ?_
  rw [nI_clamp (show si + 1 < 2 ^ 31 by omega)]
  refine kV_I (C := RX7) (T := TX7) (N := 31) (As := [.int (xs (si + 1))]) (rest := []) ⟨hx, hb, hml, hown, hts⟩ (t1_X7_run l G dA L f ad (nl + 1) nb q qk ((x.1).1) ((x.1).2.1) ((x.1).2.2.1) ((x.1).2.2.2) ((x.2.1).1) ((x.2.1).2) x.2.2.2.2.2 tt.1 ((x.2.2.2.2.1).1) ((x.2.2.2.2.1).2.1) thr pa bad num RA RB TH DE KI WE NX LI LM KE TX BW TI KV DM f (xs (si + 1)) hC hX hbad) (cwV 1 hts gL_law_X7_run rfl rfl rfl (by decide +kernel) ⟨Nat.le_of_ble_eq_true rfl, Nat.le_of_ble_eq_true rfl⟩) hw hA (hC.m (by decide)) hX.o rfl rfl hl.1 rfl (Nat.le_of_ble_eq_true rfl) dL_law_584 ⟨hc1, hs1⟩ (fun r4 f3 H locs hp hw => ?_)
  have hX2 : MX ad dA (nl + 1) nb ((x.1).1) ((x.1).2.1) ((x.1).2.2.1) ((x.1).2.2.2) ((x.2.1).1) ((x.2.1).2) x.2.2.2.2.2 tt.1 ((x.2.2.2.2.1).1) ((x.2.2.2.2.1).2.1) 1 pa bad num RA RB TH DE KI WE NX LI LM KE TX BW TI KV DM f f3 := hp
  refine lv_istore (lv' := [(7, .int r4), (6, .int 1), (0, .ref b), (1, .ref (ad 0)), (2, .ref (ad 16)), (3, .ref (ad 32)), (4, .ref (ad 33)), (5, .int (nI si))]) hx hb dL_law_587 hl (by decide) rfl (fun ls hl => ?_)
  refine lv_aload_n hx hb dL_law_589 rfl (lv_at hl 4 rfl) ?_
  refine kV_I (C := RX7) (T := TX7) (N := 31) (As := []) (rest := []) ⟨hx, hb, hml, hown, hts⟩ (c_X7_thrown l G dA L f3 ad (nl + 1) nb q qk ((x.1).1) ((x.1).2.1) ((x.1).2.2.1) ((x.1).2.2.2) ((x.2.1).1) ((x.2.1).2) x.2.2.2.2.2 tt.1 ((x.2.2.2.2.1).1) ((x.2.2.2.2.1).2.1) 1 pa bad num RA RB TH DE KI WE NX LI LM KE TX BW TI KV DM f hC hX2) (cwV 0 hts gL_law_X7_thrown rfl rfl rfl (by decide +kernel) ⟨Nat.le_of_ble_eq_true rfl, Nat.le_of_ble_eq_true rfl⟩) hw hA (hC.m (by decide)) hX2.o rfl rfl hl.1 rfl (Nat.le_of_ble_eq_true rfl) dL_law_590 ⟨hc1, hs1⟩ (fun r5 f6 H locs hp hw => ?_)
  obtain ⟨e1, e2⟩ := hp
  rw [e2] at hw
  rw [e1]
  refine lv_iload hx hb dL_law_593 (lv_at hl 1 rfl) ?_
  refine lv_icmp_eq (tgt := 600) hx hb dL_law_595 (by decide) (fun _ => ?_) (fun c9 => absurd rfl c9)
  refine lv_iload hx hb dL_law_600 (lv_at hl 1 rfl) ?_
  refine lv_if_ne (tgt := 617) hx hb dL_law_602 (by decide) (fun _ => ?_) (fun c9 => absurd c9 (by decide))
  refine lv_goto (tgt := 1177) hx hb dL_law_617 (by decide) ?_
  exact kk9 x kk tt f3 _ _ ls (LwI.of (x := x) (kk := kk) (tt := tt) hR ⟨_, _, _, _, _, _, _, _, _, _, _, _, _, _, _, _, _, _, hX2, hMk, hMb, hMw, hMt, hMp⟩ ⟨_, ho⟩ ⟨_, hd⟩ hG htt hTT) (Nat.le_add_right _ _) hw (lv_sub hl [2, 3, 4, 5, 6, 7] rfl)

set_option maxHeartbeats 4000000 in
set_option maxRecDepth 100000 in
theorem k_run_0 {p : Program} {l : Launch} {e : Env} {s : State} {m : MethodId} {below : List Frame} {meth : Method} {c : Code} {G : va_G} {dA : Nat → ClassId} {b Ls si : Nat} {xs : Nat → Int32} {sa ad : Nat → Nat} {L : List Nat} {nl nb : Nat} {q qk : Nat → Option Nat} {x : sR} {kk : Nat → UInt64 × UInt64} {tt : sT} {f : Nat → va_E} {H : Heap} {locs : List Loc} {ls : Array Slot} {cells slots : Nat} (h : Nat) (hLC : LC p l s m c meth b Ls xs G dA sa ad L nl nb q qk) (hsi : si + 5 ≤ Ls) (hc1 : cells + 1 ≤ room_1.cells) (hs1 : slots + 6 ≤ room_1.slots) (hLI : LwI ad dA nl nb q qk x kk tt f) (hhr : x.2.2.2.2.2 < 2 ^ 29) (hw : ww G dA (fun z : Nat => s.heap.size ≤ z) s L f H locs) (hl : lv_has ls 10 [(0, .ref b), (1, .ref (ad 0)), (2, .ref (ad 16)), (3, .ref (ad 32)), (4, .ref (ad 33)), (5, .int (nI si))]) (hh : h ≤ 100) (hh1 : xs (si + 1) = nI h)
    (kk9 : ∀ (x2 : sR) (kk2 : Nat → UInt64 × UInt64) (tt2 : sT) (f2 : Nat → va_E) (H : Heap) (locs : List Loc) (ls : Array Slot), LwI ad dA nl nb q qk x2 kk2 tt2 f2 → x2.2.2.2.2.2 ≤ x.2.2.2.2.2 + 100 → ww G dA (fun z : Nat => s.heap.size ≤ z) s L f2 H locs → lv_has ls 10 [(0, .ref b), (1, .ref (ad 0)), (2, .ref (ad 16)), (3, .ref (ad 32)), (4, .ref (ad 33)), (5, .int (nI si))] → W p l e room_1 s m #[Value.ref b] below meth c H locs (cells + 1) (slots + 6) (lw_Z below #[Value.ref b] s) (F0 m 1177 ls [])) : W p l e room_1 s m #[Value.ref b] below meth c H locs cells slots (lw_Z below #[Value.ref b] s) (F0 m 564 ls []) := by
  obtain ⟨hx, hb, hml, hown, hts, hXs, hbl, hlt, hE, hC, hLs, hret, hlocks⟩ := hLC
  have hA : ∀ z : Nat, s.heap.size ≤ z → (fun z : Nat => s.heap.size ≤ z) z := fun _ h => h
  have hbA : ¬ (fun z : Nat => s.heap.size ≤ z) b := Nat.not_le.mpr hbl
  obtain ⟨hR, ⟨thr, hM⟩, ⟨o, ho⟩, ⟨od, hd⟩, hG, htt, hTT⟩ := hLI
  obtain ⟨pa, bad, num, RA, RB, TH, DE, KI, WE, NX, LI, LM, KE, TX, BW, TI, KV, DM, hX, hMk, hMb, hMw, hMt, hMp⟩ := hM
  refine lv_aload_n hx hb dL_law_564 rfl (lv_at hl 1 rfl) ?_
  refine lv_aload_n hx hb dL_law_565 rfl (lv_at hl 0 rfl) ?_
  refine lv_iload hx hb dL_law_566 (lv_at hl 5 rfl) ?_
  refine lv_iconst (v := 1) hx hb dL_law_568 (by decide) ?_
  refine lv_iadd hx hb dL_law_569 ?_
  rw [show nI si + 1 = nI (si + 1) from nI_add si 1]
  refine va_sld hx hb hXs hbl hbA hw.2.2.2 (vp_in_nI (show si + 1 < Ls by omega) (by omega)) dL_law_570 ?_
  rw [nI_clamp (show si + 1 < 2 ^ 31 by omega)]
  rw [hh1]
  refine lv_aload_n hx hb dL_law_571 rfl (lv_at hl 3 rfl) ?_
  refine kH (As := [.ref (ad 0), .int (nI h), .ref (ad 32)]) (rest := []) ⟨hx, hb, hml, hown, hts⟩ (h_c_X6_run l hlt G dA sa L f ad nl nb q qk x.1 x.2.1 x.2.2.1 x.2.2.2.1 kk tt x.2.2.2.2.1 x.2.2.2.2.2 h hC hR hh hG hhr o ho) (vx_cwSW 3 hts gL_law_L_run rfl rfl rfl (by decide +kernel) ⟨Nat.le_of_ble_eq_true rfl, Nat.le_of_ble_eq_true rfl⟩) hw hE hA rfl hl.1 rfl (Nat.le_of_ble_eq_true rfl) dL_law_572 ⟨hc1, hs1⟩ (fun r2 f1 H locs hp hw => ?_)
  obtain ⟨e1, hp⟩ := hp
  rw [e1]
  obtain ⟨fb, hRb, ef⟩ := hp
  have hR1 : RC ad dA (nl + 1) nb q qk (runS nl nb kk h x).2.1 (runS nl nb kk h x).2.2.1 (runS nl nb kk h x).2.2.2.1 (runS nl nb kk h x).2.2.2.2.1 kk tt (runS nl nb kk h x).2.2.2.2.2.1 (runS nl nb kk h x).2.2.2.2.2.2 f1 f1 := hRb.mv (fun i hi h => by rw [ef]; exact va_up_ne _ _ (hC.ne hi (by omega) (by omega))) (fun _ _ _ => rfl)
  have hX3 : MX ad dA (nl + 1) nb ((x.1).1) ((x.1).2.1) ((x.1).2.2.1) ((x.1).2.2.2) ((x.2.1).1) ((x.2.1).2) x.2.2.2.2.2 tt.1 ((x.2.2.2.2.1).1) ((x.2.2.2.2.1).2.1) thr pa bad num RA RB TH DE KI WE NX LI LM KE TX BW TI KV DM f1 f1 := hX.mv (fun i h1 h2 => by rw [ef]; exact (va_up_ne _ _ (hC.ne (by omega) (by omega) (by omega))).trans (hRb.fr h1 (by omega))) (fun _ _ _ => rfl)
  have hoth : f1 (ad 33) = aD (dA 1) 1 od := by rw [ef]; exact (va_up_ne _ _ (hC.ne (by omega) (by omega) (by decide))).trans ((hRb.fr (by omega) (by omega)).trans hd)
  have hown9 : f1 (ad 32) = aL (dA 4) 1 (vp_updL o 0 ((runS nl nb kk h x).1.toInt64)) := by rw [ef]; exact va_up_self _ _ _
  refine lv_istore (lv' := [(6, .int 0), (0, .ref b), (1, .ref (ad 0)), (2, .ref (ad 16)), (3, .ref (ad 32)), (4, .ref (ad 33)), (5, .int (nI si))]) hx hb dL_law_575 hl (by decide) rfl (fun ls hl => ?_)
  refine lv_aload_n hx hb dL_law_577 rfl (lv_at hl 3 rfl) ?_
  refine lv_aload_n hx hb dL_law_578 rfl (lv_at hl 1 rfl) ?_
  refine lv_iload hx hb dL_law_579 (lv_at hl 6 rfl) ?_
  refine lv_iconst (v := 1) hx hb dL_law_581 (by decide) ?_
  refine lv_iadd hx hb dL_law_582 ?_
  rw [show nI si + 1 = nI (si + 1) from nI_add si 1]
  refine va_sld hx hb hXs hbl hbA hw.2.2.2 (vp_in_nI (show si + 1 < Ls by omega) (by omega)) dL_law_583 ?_
  rw [nI_clamp (show si + 1 < 2 ^ 31 by omega)]
  rw [hh1]
  refine kV_I (C := RX7) (T := TX7) (N := 31) (As := [.int (nI h)]) (rest := []) ⟨hx, hb, hml, hown, hts⟩ (c_X7_run l G dA L f1 ad nl nb q qk x.1 x.2.1 x.2.2.1 x.2.2.2.1 kk tt x.2.2.2.2.1 x.2.2.2.2.2 thr f1 h hC ⟨_, _, _, _, _, _, _, _, _, _, _, _, _, _, _, _, _, _, hX3, hMk, hMb, hMw, hMt, hMp⟩ hh hG hhr) (cwV 1 hts gL_law_X7_run rfl rfl rfl (by decide +kernel) ⟨Nat.le_of_ble_eq_true rfl, Nat.le_of_ble_eq_true rfl⟩) hw hA (hC.m (by decide)) hX3.o rfl rfl hl.1 rfl (Nat.le_of_ble_eq_true rfl) dL_law_584 ⟨hc1, hs1⟩ (fun r5 f4 H locs hp hw => ?_)
  obtain ⟨e1, hM9⟩ := hp
  rw [show r5 = (runS nl nb kk h x).1 from e1]
  have hM8 : RM ad dA (nl + 1) nb (runS nl nb kk h x).2.1 (runS nl nb kk h x).2.2.1 (runS nl nb kk h x).2.2.2.1 (runS nl nb kk h x).2.2.2.2.1 kk tt (runS nl nb kk h x).2.2.2.2.2.1 (runS nl nb kk h x).2.2.2.2.2.2 0 f1 f4 := hM9
  obtain ⟨pa8, bad8, num8, RA8, RB8, TH8, DE8, KI8, WE8, NX8, LI8, LM8, KE8, TX8, BW8, TI8, KV8, DM8, hX2, hMk8, hMb8, hMw8, hMt8, hMp8⟩ := id hM8
  refine lv_istore (lv' := [(7, .int ((runS nl nb kk h x).1)), (6, .int 0), (0, .ref b), (1, .ref (ad 0)), (2, .ref (ad 16)), (3, .ref (ad 32)), (4, .ref (ad 33)), (5, .int (nI si))]) hx hb dL_law_587 hl (by decide) rfl (fun ls hl => ?_)
  refine lv_aload_n hx hb dL_law_589 rfl (lv_at hl 4 rfl) ?_
  refine kV_I (C := RX7) (T := TX7) (N := 31) (As := []) (rest := []) ⟨hx, hb, hml, hown, hts⟩ (c_X7_thrown l G dA L f4 ad (nl + 1) nb q qk (((runS nl nb kk h x).2.1).1) (((runS nl nb kk h x).2.1).2.1) (((runS nl nb kk h x).2.1).2.2.1) (((runS nl nb kk h x).2.1).2.2.2) (((runS nl nb kk h x).2.2.1).1) (((runS nl nb kk h x).2.2.1).2) ((runS nl nb kk h x).2.2.2.2.2.2) tt.1 (((runS nl nb kk h x).2.2.2.2.2.1).1) (((runS nl nb kk h x).2.2.2.2.2.1).2.1) 0 pa8 bad8 num8 RA8 RB8 TH8 DE8 KI8 WE8 NX8 LI8 LM8 KE8 TX8 BW8 TI8 KV8 DM8 f1 hC hX2) (cwV 0 hts gL_law_X7_thrown rfl rfl rfl (by decide +kernel) ⟨Nat.le_of_ble_eq_true rfl, Nat.le_of_ble_eq_true rfl⟩) hw hA (hC.m (by decide)) hX2.o rfl rfl hl.1 rfl (Nat.le_of_ble_eq_true rfl) dL_law_590 ⟨hc1, hs1⟩ (fun r6 f7 H locs hp hw => ?_)
  obtain ⟨e1, e2⟩ := hp
  rw [e2] at hw
  rw [e1]
  refine lv_iload hx hb dL_law_593 (lv_at hl 1 rfl) ?_
  refine lv_icmp_eq (tgt := 600) hx hb dL_law_595 (by decide) (fun _ => ?_) (fun c9 => absurd rfl c9)
  refine lv_iload hx hb dL_law_600 (lv_at hl 1 rfl) ?_
  refine lv_if_ne (tgt := 617) hx hb dL_law_602 (by decide) (fun c9 => absurd c9 (fun h7 => h7 rfl)) (fun _ => ?_)
  refine lv_aload_n hx hb dL_law_605 rfl (lv_at hl 5 rfl) ?_
  refine lv_iconst (v := 0) hx hb dL_law_606 (by decide) ?_
  refine wld_l hx hb hw (hC.m (by decide)) ((hX2.fr (by omega) (by omega)).trans hown9) 0 (by decide) (by decide) nI_0.symm dL_law_607 ?_
  rw [show ((vp_updL o 0 ((runS nl nb kk h x).1.toInt64))) 0 = (runS nl nb kk h x).1.toInt64 from vpL_s]
  refine lv_iload hx hb dL_law_608 (lv_at hl 0 rfl) ?_
  refine lv_i2l (v := ((runS nl nb kk h x).1).toInt64) hx hb dL_law_610 rfl ?_
  refine W.lcmp hx hb dL_law_611 ?_
  rw [lgc_self]
  refine lv_if_eq (tgt := 617) hx hb dL_law_612 (by decide) (fun _ => ?_) (fun c9 => absurd rfl c9)
  refine lv_goto (tgt := 1177) hx hb dL_law_617 (by decide) ?_
  exact kk9 ((runS nl nb kk h x).2) kk tt f4 _ _ ls (LwI.of (x := (runS nl nb kk h x).2) (kk := kk) (tt := tt) hR1 hM8 ⟨_, hown9⟩ ⟨_, hoth⟩ (GR.run h x hG (by omega)).1 htt hTT) (Nat.le_trans (GR.run h x hG (by omega)).2 (by omega)) hw (lv_sub hl [2, 3, 4, 5, 6, 7] rfl)
