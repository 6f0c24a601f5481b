set_option maxHeartbeats 4000000 in
set_option maxRecDepth 100000 in
theorem k_check_1 {p : Program} {l : Launch} {e : Env} {s : State} {m : MethodId} {below : List Frame} {meth : Method} {c : Code} {G : va_G} {dA : Nat → ClassId} {b Ls si : Nat} {xs : Nat → Int32} {sa ad : Nat → Nat} {L : List Nat} {nl nb : Nat} {q qk : Nat → Option Nat} {x : sR} {kk : Nat → UInt64 × UInt64} {tt : sT} {f : Nat → va_E} {H : Heap} {locs : List Loc} {ls : Array Slot} {cells slots : Nat}  (hLC : LC p l s m c meth b Ls xs G dA sa ad L nl nb q qk) (hsi : si + 5 ≤ Ls) (hc1 : cells + 1 ≤ room_1.cells) (hs1 : slots + 6 ≤ room_1.slots) (hLI : LwI ad dA nl nb q qk x kk tt f) (hhr : x.2.2.2.2.2 < 2 ^ 29) (hw : ww G dA (fun z : Nat => s.heap.size ≤ z) s L f H locs) (hl : lv_has ls 10 [(0, .ref b), (1, .ref (ad 0)), (2, .ref (ad 16)), (3, .ref (ad 32)), (4, .ref (ad 33)), (5, .int (nI si))]) (hbad : xs (si + 1) < 0 ∨ nI nb ≤ xs (si + 1))
    (kk9 : ∀ (x2 : sR) (kk2 : Nat → UInt64 × UInt64) (tt2 : sT) (f2 : Nat → va_E) (H : Heap) (locs : List Loc) (ls : Array Slot), LwI ad dA nl nb q qk x2 kk2 tt2 f2 → x2.2.2.2.2.2 ≤ x.2.2.2.2.2 + 100 → ww G dA (fun z : Nat => s.heap.size ≤ z) s L f2 H locs → lv_has ls 10 [(0, .ref b), (1, .ref (ad 0)), (2, .ref (ad 16)), (3, .ref (ad 32)), (4, .ref (ad 33)), (5, .int (nI si))] → W p l e room_1 s m #[Value.ref b] below meth c H locs (cells + 1) (slots + 6) (lw_Z below #[Value.ref b] s) (F0 m 1177 ls [])) : W p l e room_1 s m #[Value.ref b] below meth c H locs cells slots (lw_Z below #[Value.ref b] s) (F0 m 678 ls []) := by
  obtain ⟨hx, hb, hml, hown, hts, hXs, hbl, hlt, hE, hC, hLs, hret, hlocks⟩ := hLC
  have hA : ∀ z : Nat, s.heap.size ≤ z → (fun z : Nat => s.heap.size ≤ z) z := fun _ h => h
  have hbA : ¬ (fun z : Nat => s.heap.size ≤ z) b := Nat.not_le.mpr hbl
  obtain ⟨hR, ⟨thr, hM⟩, ⟨o, ho⟩, ⟨od, hd⟩, hG, htt, hTT⟩ := hLI
  obtain ⟨pa, bad, num, RA, RB, TH, DE, KI, WE, NX, LI, LM, KE, TX, BW, TI, KV, DM, hX, hMk, hMb, hMw, hMt, hMp⟩ := hM
  refine lv_aload_n hx hb dL_law_678 rfl (lv_at hl 1 rfl) ?_
  refine lv_aload_n hx hb dL_law_679 rfl (lv_at hl 0 rfl) ?_
  refine lv_iload hx hb dL_law_680 (lv_at hl 5 rfl) ?_
  refine lv_iconst (v := 1) hx hb dL_law_682 (by decide) ?_
  refine lv_iadd hx hb dL_law_683 ?_
  rw [show nI si + 1 = nI (si + 1) from nI_add si 1]
  refine va_sld hx hb hXs hbl hbA hw.2.2.2 (vp_in_nI (show si + 1 < Ls by omega) (by omega)) dL_law_684 ?_
  rw [nI_clamp (show si + 1 < 2 ^ 31 by omega)]
  refine lv_aload_n hx hb dL_law_685 rfl (lv_at hl 3 rfl) ?_
  refine kH (As := [.ref (ad 0), .int (xs (si + 1)), .ref (ad 32)]) (rest := []) ⟨hx, hb, hml, hown, hts⟩ (h_x1_X6_check l hlt G dA sa L f ad (nl + 1) nb q qk x.1 x.2.1 x.2.2.1 x.2.2.2.1 kk tt x.2.2.2.2.1 x.2.2.2.2.2 (xs (si + 1)) hC hR hbad o ho) (vx_cwSW 3 hts gL_law_L_check rfl rfl rfl (by decide +kernel) ⟨Nat.le_of_ble_eq_true rfl, Nat.le_of_ble_eq_true rfl⟩) hw hE hA rfl hl.1 rfl (Nat.le_of_ble_eq_true rfl) dL_law_686 ⟨hc1, hs1⟩ (fun r2 f1 H locs hp hw => ?_)
  obtain ⟨e1, e2⟩ := hp
  rw [e2] at hw
  rw [e1]
  refine lv_istore (lv' := [(6, .int 1), (0, .ref b), (1, .ref (ad 0)), (2, .ref (ad 16)), (3, .ref (ad 32)), (4, .ref (ad 33)), (5, .int (nI si))]) hx hb dL_law_689 hl (by decide) rfl (fun ls hl => ?_)
  refine lv_aload_n hx hb dL_law_691 rfl (lv_at hl 3 rfl) ?_
  refine lv_aload_n hx hb dL_law_692 rfl (lv_at hl 1 rfl) ?_
  refine lv_iload hx hb dL_law_693 (lv_at hl 6 rfl) ?_
  refine lv_iconst (v := 1) hx hb dL_law_695 (by decide) ?_
  refine lv_iadd hx hb dL_law_696 ?_
  rw [show nI si + 1 = nI (si + 1) from nI_add si 1]
  refine va_sld hx hb hXs hbl hbA hw.2.2.2 (vp_in_nI (show si + 1 < Ls by omega) (by omega)) dL_law_697 ?_
  rw [nI_clamp (show si + 1 < 2 ^ 31 by omega)]
  refine kV_I (C := RX7) (T := TX7) (N := 31) (As := [.int (xs (si + 1))]) (rest := []) ⟨hx, hb, hml, hown, hts⟩ (t1_X7_check l G dA L f ad (nl + 1) nb q qk ((x.1).1) ((x.1).2.1) ((x.1).2.2.1) ((x.1).2.2.2) ((x.2.1).1) ((x.2.1).2) x.2.2.2.2.2 tt.1 ((x.2.2.2.2.1).1) ((x.2.2.2.2.1).2.1) thr pa bad num RA RB TH DE KI WE NX LI LM KE TX BW TI KV DM f (xs (si + 1)) hC hX (noB_t hbad)) (cwV 1 hts gL_law_X7_check rfl rfl rfl (by decide +kernel) ⟨Nat.le_of_ble_eq_true rfl, Nat.le_of_ble_eq_true rfl⟩) hw hA (hC.m (by decide)) hX.o rfl rfl hl.1 rfl (Nat.le_of_ble_eq_true rfl) dL_law_698 ⟨hc1, hs1⟩ (fun r4 f3 H locs hp hw => ?_)
  have hX2 : MX ad dA (nl + 1) nb ((x.1).1) ((x.1).2.1) ((x.1).2.2.1) ((x.1).2.2.2) ((x.2.1).1) ((x.2.1).2) x.2.2.2.2.2 tt.1 ((x.2.2.2.2.1).1) ((x.2.2.2.2.1).2.1) 1 pa bad num RA RB TH DE KI WE NX LI LM KE TX BW TI KV DM f f3 := hp
  refine lv_istore (lv' := [(7, .int r4), (6, .int 1), (0, .ref b), (1, .ref (ad 0)), (2, .ref (ad 16)), (3, .ref (ad 32)), (4, .ref (ad 33)), (5, .int (nI si))]) hx hb dL_law_701 hl (by decide) rfl (fun ls hl => ?_)
  refine lv_aload_n hx hb dL_law_703 rfl (lv_at hl 4 rfl) ?_
  refine kV_I (C := RX7) (T := TX7) (N := 31) (As := []) (rest := []) ⟨hx, hb, hml, hown, hts⟩ (c_X7_thrown l G dA L f3 ad (nl + 1) nb q qk ((x.1).1) ((x.1).2.1) ((x.1).2.2.1) ((x.1).2.2.2) ((x.2.1).1) ((x.2.1).2) x.2.2.2.2.2 tt.1 ((x.2.2.2.2.1).1) ((x.2.2.2.2.1).2.1) 1 pa bad num RA RB TH DE KI WE NX LI LM KE TX BW TI KV DM f hC hX2) (cwV 0 hts gL_law_X7_thrown rfl rfl rfl (by decide +kernel) ⟨Nat.le_of_ble_eq_true rfl, Nat.le_of_ble_eq_true rfl⟩) hw hA (hC.m (by decide)) hX2.o rfl rfl hl.1 rfl (Nat.le_of_ble_eq_true rfl) dL_law_704 ⟨hc1, hs1⟩ (fun r5 f6 H locs hp hw => ?_)
  obtain ⟨e1, e2⟩ := hp
  rw [e2] at hw
  rw [e1]
  refine lv_iload hx hb dL_law_707 (lv_at hl 1 rfl) ?_
  refine lv_icmp_eq (tgt := 714) hx hb dL_law_709 (by decide) (fun _ => ?_) (fun c9 => absurd rfl c9)
  refine lv_iload hx hb dL_law_714 (lv_at hl 1 rfl) ?_
  refine lv_if_ne (tgt := 731) hx hb dL_law_716 (by decide) (fun _ => ?_) (fun c9 => absurd c9 (by decide))
  refine lv_goto (tgt := 1177) hx hb dL_law_731 (by decide) ?_
  exact kk9 x kk tt f3 _ _ ls (LwI.of (x := x) (kk := kk) (tt := tt) hR ⟨_, _, _, _, _, _, _, _, _, _, _, _, _, _, _, _, _, _, hX2, hMk, hMb, hMw, hMt, hMp⟩ ⟨_, ho⟩ ⟨_, hd⟩ hG htt hTT) (Nat.le_add_right _ _) hw (lv_sub hl [2, 3, 4, 5, 6, 7] rfl)

set_option maxHeartbeats 4000000 in
set_option maxRecDepth 100000 in
theorem k_check_2 {p : Program} {l : Launch} {e : Env} {s : State} {m : MethodId} {below : List Frame} {meth : Method} {c : Code} {G : va_G} {dA : Nat → ClassId} {b Ls si : Nat} {xs : Nat → Int32} {sa ad : Nat → Nat} {L : List Nat} {nl nb : Nat} {q qk : Nat → Option Nat} {x : sR} {kk : Nat → UInt64 × UInt64} {tt : sT} {f : Nat → va_E} {H : Heap} {locs : List Loc} {ls : Array Slot} {cells slots : Nat} (j : Nat) (hLC : LC p l s m c meth b Ls xs G dA sa ad L nl nb q qk) (hsi : si + 5 ≤ Ls) (hc1 : cells + 1 ≤ room_1.cells) (hs1 : slots + 6 ≤ room_1.slots) (hLI : LwI ad dA nl nb q qk x kk tt f) (hhr : x.2.2.2.2.2 < 2 ^ 29) (hw : ww G dA (fun z : Nat => s.heap.size ≤ z) s L f H locs) (hl : lv_has ls 10 [(0, .ref b), (1, .ref (ad 0)), (2, .ref (ad 16)), (3, .ref (ad 32)), (4, .ref (ad 33)), (5, .int (nI si))]) (hj : j < nb) (hj1 : xs (si + 1) = nI j) (hbad : (x.2.2.1 j).1 = 0)
    (kk9 : ∀ (x2 : sR) (kk2 : Nat → UInt64 × UInt64) (tt2 : sT) (f2 : Nat → va_E) (H : Heap) (locs : List Loc) (ls : Array Slot), LwI ad dA nl nb q qk x2 kk2 tt2 f2 → x2.2.2.2.2.2 ≤ x.2.2.2.2.2 + 100 → ww G dA (fun z : Nat => s.heap.size ≤ z) s L f2 H locs → lv_has ls 10 [(0, .ref b), (1, .ref (ad 0)), (2, .ref (ad 16)), (3, .ref (ad 32)), (4, .ref (ad 33)), (5, .int (nI si))] → W p l e room_1 s m #[Value.ref b] below meth c H locs (cells + 1) (slots + 6) (lw_Z below #[Value.ref b] s) (F0 m 1177 ls [])) : W p l e room_1 s m #[Value.ref b] below meth c H locs cells slots (lw_Z below #[Value.ref b] s) (F0 m 678 ls []) := by
  obtain ⟨hx, hb, hml, hown, hts, hXs, hbl, hlt, hE, hC, hLs, hret, hlocks⟩ := hLC
  have hA : ∀ z : Nat, s.heap.size ≤ z → (fun z : Nat => s.heap.size ≤ z) z := fun _ h => h
  have hbA : ¬ (fun z : Nat => s.heap.size ≤ z) b := Nat.not_le.mpr hbl
  obtain ⟨hR, ⟨thr, hM⟩, ⟨o, ho⟩, ⟨od, hd⟩, hG, htt, hTT⟩ := hLI
  obtain ⟨pa, bad, num, RA, RB, TH, DE, KI, WE, NX, LI, LM, KE, TX, BW, TI, KV, DM, hX, hMk, hMb, hMw, hMt, hMp⟩ := hM
  refine lv_aload_n hx hb dL_law_678 rfl (lv_at hl 1 rfl) ?_
  refine lv_aload_n hx hb dL_law_679 rfl (lv_at hl 0 rfl) ?_
  refine lv_iload hx hb dL_law_680 (lv_at hl 5 rfl) ?_
  refine lv_iconst (v := 1) hx hb dL_law_682 (by decide) ?_
  refine lv_iadd hx hb dL_law_683 ?_
  rw [show nI si + 1 = nI (si + 1) from nI_add si 1]
  refine va_sld hx hb hXs hbl hbA hw.2.2.2 (vp_in_nI (show si + 1 < Ls by omega) (by omega)) dL_law_684 ?_
  rw [nI_clamp (show si + 1 < 2 ^ 31 by omega)]
  rw [hj1]
  refine lv_aload_n hx hb dL_law_685 rfl (lv_at hl 3 rfl) ?_
  refine kH (As := [.ref (ad 0), .int (nI j), .ref (ad 32)]) (rest := []) ⟨hx, hb, hml, hown, hts⟩ (h_x2_X6_check l hlt G dA sa L f ad (nl + 1) nb q qk x.1 x.2.1 x.2.2.1 x.2.2.2.1 kk tt x.2.2.2.2.1 x.2.2.2.2.2 j hC hR hj hbad o ho) (vx_cwSW 3 hts gL_law_L_check rfl rfl rfl (by decide +kernel) ⟨Nat.le_of_ble_eq_true rfl, Nat.le_of_ble_eq_true rfl⟩) hw hE hA rfl hl.1 rfl (Nat.le_of_ble_eq_true rfl) dL_law_686 ⟨hc1, hs1⟩ (fun r2 f1 H locs hp hw => ?_)
  obtain ⟨e1, e2⟩ := hp
  rw [e2] at hw
  rw [e1]
  refine lv_istore (lv' := [(6, .int 2), (0, .ref b), (1, .ref (ad 0)), (2, .ref (ad 16)), (3, .ref (ad 32)), (4, .ref (ad 33)), (5, .int (nI si))]) hx hb dL_law_689 hl (by decide) rfl (fun ls hl => ?_)
  refine lv_aload_n hx hb dL_law_691 rfl (lv_at hl 3 rfl) ?_
  refine lv_aload_n hx hb dL_law_692 rfl (lv_at hl 1 rfl) ?_
  refine lv_iload hx hb dL_law_693 (lv_at hl 6 rfl) ?_
  refine lv_iconst (v := 1) hx hb dL_law_695 (by decide) ?_
  refine lv_iadd hx hb dL_law_696 ?_
  rw [show nI si + 1 = nI (si + 1) from nI_add si 1]
  refine va_sld hx hb hXs hbl hbA hw.2.2.2 (vp_in_nI (show si + 1 < Ls by omega) (by omega)) dL_law_697 ?_
  rw [nI_clamp (show si + 1 < 2 ^ 31 by omega)]
  rw [hj1]
  refine kV_I (C := RX7) (T := TX7) (N := 31) (As := [.int (nI j)]) (rest := []) ⟨hx, hb, hml, hown, hts⟩ (t2_X7_check l G dA L f ad (nl + 1) nb q qk ((x.1).1) ((x.1).2.1) ((x.1).2.2.1) ((x.1).2.2.2) ((x.2.1).1) ((x.2.1).2) x.2.2.2.2.2 tt.1 ((x.2.2.2.2.1).1) ((x.2.2.2.2.1).2.1) thr pa bad num RA RB TH DE KI WE NX LI LM KE TX BW TI KV DM f j hC hX hj ((hMb j hj).1.trans hbad)) (cwV 1 hts gL_law_X7_check rfl rfl rfl (by decide +kernel) ⟨Nat.le_of_ble_eq_true rfl, Nat.le_of_ble_eq_true rfl⟩) hw hA (hC.m (by decide)) hX.o rfl rfl hl.1 rfl (Nat.le_of_ble_eq_true rfl) dL_law_698 ⟨hc1, hs1⟩ (fun r4 f3 H locs hp hw => ?_)
  have hX2 : MX ad dA (nl + 1) nb ((x.1).1) ((x.1).2.1) ((x.1).2.2.1) ((x.1).2.2.2) ((x.2.1).1) ((x.2.1).2) x.2.2.2.2.2 tt.1 ((x.2.2.2.2.1).1) ((x.2.2.2.2.1).2.1) 2 pa bad num RA RB TH DE KI WE NX LI LM KE TX BW TI KV DM f f3 := hp
  refine lv_istore (lv' := [(7, .int r4), (6, .int 2), (0, .ref b), (1, .ref (ad 0)), (2, .ref (ad 16)), (3, .ref (ad 32)), (4, .ref (ad 33)), (5, .int (nI si))]) hx hb dL_law_701 hl (by decide) rfl (fun ls hl => ?_)
  refine lv_aload_n hx hb dL_law_703 rfl (lv_at hl 4 rfl) ?_
  refine kV_I (C := RX7) (T := TX7) (N := 31) (As := []) (rest := []) ⟨hx, hb, hml, hown, hts⟩ (c_X7_thrown l G dA L f3 ad (nl + 1) nb q qk ((x.1).1) ((x.1).2.1) ((x.1).2.2.1) ((x.1).2.2.2) ((x.2.1).1) ((x.2.1).2) x.2.2.2.2.2 tt.1 ((x.2.2.2.2.1).1) ((x.2.2.2.2.1).2.1) 2 pa bad num RA RB TH DE KI WE NX LI LM KE TX BW TI KV DM f hC hX2) (cwV 0 hts gL_law_X7_thrown rfl rfl rfl (by decide +kernel) ⟨Nat.le_of_ble_eq_true rfl, Nat.le_of_ble_eq_true rfl⟩) hw hA (hC.m (by decide)) hX2.o rfl rfl hl.1 rfl (Nat.le_of_ble_eq_true rfl) dL_law_704 ⟨hc1, hs1⟩ (fun r5 f6 H locs hp hw => ?_)
  obtain ⟨e1, e2⟩ := hp
  rw [e2] at hw
  rw [e1]
  refine lv_iload hx hb dL_law_707 (lv_at hl 1 rfl) ?_
  refine lv_icmp_eq (tgt := 714) hx hb dL_law_709 (by decide) (fun _ => ?_) (fun c9 => absurd rfl c9)
  refine lv_iload hx hb dL_law_714 (lv_at hl 1 rfl) ?_
  refine lv_if_ne (tgt := 731) hx hb dL_law_716 (by decide) (fun _ => ?_) (fun c9 => absurd c9 (by decide))
  refine lv_goto (tgt := 1177) hx hb dL_law_731 (by decide) ?_
  exact kk9 x kk tt f3 _ _ ls (LwI.of (x := x) (kk := kk) (tt := tt) hR ⟨_, _, _, _, _, _, _, _, _, _, _, _, _, _, _, _, _, _, hX2, hMk, hMb, hMw, hMt, hMp⟩ ⟨_, ho⟩ ⟨_, hd⟩ hG htt hTT) (Nat.le_add_right _ _) hw (lv_sub hl [2, 3, 4, 5, 6, 7] rfl)

set_option maxHeartbeats 4000000 in
set_option maxRecDepth 100000 in
theorem k_check_0 {p : Program} {l : Launch} {e : Env} {s : State} {m : MethodId} {below : List Frame} {meth : Method} {c : Code} {G : va_G} {dA : Nat → ClassId} {b Ls si : Nat} {xs : Nat → Int32} {sa ad : Nat → Nat} {L : List Nat} {nl nb : Nat} {q qk : Nat → Option Nat} {x : sR} {kk : Nat → UInt64 × UInt64} {tt : sT} {f : Nat → va_E} {H : Heap} {locs : List Loc} {ls : Array Slot} {cells slots : Nat} (j : Nat) (hLC : LC p l s m c meth b Ls xs G dA sa ad L nl nb q qk) (hsi : si + 5 ≤ Ls) (hc1 : cells + 1 ≤ room_1.cells) (hs1 : slots + 6 ≤ room_1.slots) (hLI : LwI ad dA nl nb q qk x kk tt f) (hhr : x.2.2.2.2.2 < 2 ^ 29) (hw : ww G dA (fun z : Nat => s.heap.size ≤ z) s L f H locs) (hl : lv_has ls 10 [(0, .ref b), (1, .ref (ad 0)), (2, .ref (ad 16)), (3, .ref (ad 32)), (4, .ref (ad 33)), (5, .int (nI si))]) (hj : j < nb) (hj1 : xs (si + 1) = nI j) (hth : ¬ (x.2.2.1 j).1 = 0)
    (kk9 : ∀ (x2 : sR) (kk2 : Nat → UInt64 × UInt64) (tt2 : sT) (f2 : Nat → va_E) (H : Heap) (locs : List Loc) (ls : Array Slot), LwI ad dA nl nb q qk x2 kk2 tt2 f2 → x2.2.2.2.2.2 ≤ x.2.2.2.2.2 + 100 → ww G dA (fun z : Nat => s.heap.size ≤ z) s L f2 H locs → lv_has ls 10 [(0, .ref b), (1, .ref (ad 0)), (2, .ref (ad 16)), (3, .ref (ad 32)), (4, .ref (ad 33)), (5, .int (nI si))] → W p l e room_1 s m #[Value.ref b] below meth c H locs (cells + 1) (slots + 6) (lw_Z below #[Value.ref b] s) (F0 m 1177 ls [])) : W p l e room_1 s m #[Value.ref b] below meth c H locs cells slots (lw_Z below #[Value.ref b] s) (F0 m 678 ls []) := by
  obtain ⟨hx, hb, hml, hown, hts, hXs, hbl, hlt, hE, hC, hLs, hret, hlocks⟩ := hLC
  have hA : ∀ z : Nat, s.heap.size ≤ z → (fun z : Nat => s.heap.size ≤ z) z := fun _ h => h
  have hbA : ¬ (fun z : Nat => s.heap.size ≤ z) b := Nat.not_le.mpr hbl
  obtain ⟨hR, ⟨thr, hM⟩, ⟨o, ho⟩, ⟨od, hd⟩, hG, htt, hTT⟩ := hLI
  obtain ⟨pa, bad, num, RA, RB, TH, DE, KI, WE, NX, LI, LM, KE, TX, BW, TI, KV, DM, hX, hMk, hMb, hMw, hMt, hMp⟩ := hM
  refine lv_aload_n hx hb dL_law_678 rfl (lv_at hl 1 rfl) ?_
  refine lv_aload_n hx hb dL_law_679 rfl (lv_at hl 0 rfl) ?_
  refine lv_iload hx hb dL_law_680 (lv_at hl 5 rfl) ?_
  refine lv_iconst (v := 1) hx hb dL_law_682 (by decide) ?_
  refine lv_iadd hx hb dL_law_683 ?_
  rw [show nI si + 1 = nI (si + 1) from nI_add si 1]
  refine va_sld hx hb hXs hbl hbA hw.2.2.2 (vp_in_nI (show si + 1 < Ls by omega) (by omega)) dL_law_684 ?_
  rw [nI_clamp (show si + 1 < 2 ^ 31 by omega)]
  rw [hj1]
  refine lv_aload_n hx hb dL_law_685 rfl (lv_at hl 3 rfl) ?_
  refine kH (As := [.ref (ad 0), .int (nI j), .ref (ad 32)]) (rest := []) ⟨hx, hb, hml, hown, hts⟩ (h_c_X6_check l hlt G dA sa L f ad (nl + 1) nb q qk x.1 x.2.1 x.2.2.1 x.2.2.2.1 kk tt x.2.2.2.2.1 x.2.2.2.2.2 j hC hR hj hth o ho) (vx_cwSW 3 hts gL_law_L_check rfl rfl rfl (by decide +kernel) ⟨Nat.le_of_ble_eq_true rfl, Nat.le_of_ble_eq_true rfl⟩) hw hE hA rfl hl.1 rfl (Nat.le_of_ble_eq_true rfl) dL_law_686 ⟨hc1, hs1⟩ (fun r2 f1 H locs hp hw => ?_)
  obtain ⟨e1, hp⟩ := hp
  rw [e1]
  have ef : f1 = va_up f (ad 32) (aL (dA 4) 1 (vp_updL o 0 ((x.2.2.1 j).2.2.2.2.1.toInt64))) := hp
  have hR1 : RC ad dA (nl + 1) nb q qk x.1 x.2.1 x.2.2.1 x.2.2.2.1 kk tt x.2.2.2.2.1 x.2.2.2.2.2 f1 f1 := hR.mv (fun i hi h => by rw [ef]; exact va_up_ne _ _ (hC.ne hi (by omega) (by omega))) (fun _ _ _ => rfl)
  have hX3 : MX ad dA (nl + 1) nb ((x.1).1) ((x.1).2.1) ((x.1).2.2.1) ((x.1).2.2.2) ((x.2.1).1) ((x.2.1).2) x.2.2.2.2.2 tt.1 ((x.2.2.2.2.1).1) ((x.2.2.2.2.1).2.1) thr pa bad num RA RB TH DE KI WE NX LI LM KE TX BW TI KV DM f1 f1 := hX.mv (fun i h1 h2 => by rw [ef]; exact va_up_ne _ _ (hC.ne (by omega) (by omega) (by omega))) (fun _ _ _ => rfl)
  have hoth : f1 (ad 33) = aD (dA 1) 1 od := by rw [ef]; exact (va_up_ne _ _ (hC.ne (by omega) (by omega) (by decide))).trans hd
  have hown9 : f1 (ad 32) = aL (dA 4) 1 (vp_updL o 0 ((x.2.2.1 j).2.2.2.2.1.toInt64)) := by rw [ef]; exact va_up_self _ _ _
  refine lv_istore (lv' := [(6, .int 0), (0, .ref b), (1, .ref (ad 0)), (2, .ref (ad 16)), (3, .ref (ad 32)), (4, .ref (ad 33)), (5, .int (nI si))]) hx hb dL_law_689 hl (by decide) rfl (fun ls hl => ?_)
  refine lv_aload_n hx hb dL_law_691 rfl (lv_at hl 3 rfl) ?_
  refine lv_aload_n hx hb dL_law_692 rfl (lv_at hl 1 rfl) ?_
  refine lv_iload hx hb dL_law_693 (lv_at hl 6 rfl) ?_
  refine lv_iconst (v := 1) hx hb dL_law_695 (by decide) ?_
  refine lv_iadd hx hb dL_law_696 ?_
  rw [show nI si + 1 = nI (si + 1) from nI_add si 1]
  refine va_sld hx hb hXs hbl hbA hw.2.2.2 (vp_in_nI (show si + 1 < Ls by omega) (by omega)) dL_law_697 ?_
  rw [nI_clamp (show si + 1 < 2 ^ 31 by omega)]
  rw [hj1]
  refine kV_I (C := RX7) (T := TX7) (N := 31) (As := [.int (nI j)]) (rest := []) ⟨hx, hb, hml, hown, hts⟩ (c_X7_check l G dA L f1 ad (nl + 1) nb q qk ((x.1).1) ((x.1).2.1) ((x.1).2.2.1) ((x.1).2.2.2) ((x.2.1).1) ((x.2.1).2) x.2.2.2.2.2 tt.1 ((x.2.2.2.2.1).1) ((x.2.2.2.2.1).2.1) thr pa bad num RA RB TH DE KI WE NX LI LM KE TX BW TI KV DM f1 j hC hX3 hj (fun h => hth ((hMb j hj).1.symm.trans h))) (cwV 1 hts gL_law_X7_check rfl rfl rfl (by decide +kernel) ⟨Nat.le_of_ble_eq_true rfl, Nat.le_of_ble_eq_true rfl⟩) hw hA (hC.m (by decide)) hX3.o rfl rfl hl.1 rfl (Nat.le_of_ble_eq_true rfl) dL_law_698 ⟨hc1, hs1⟩ (fun r5 f4 H locs hp hw => ?_)
  obtain ⟨e1, hp⟩ := hp
  rw [e1]
  have hX2 : MX ad dA (nl + 1) nb ((x.1).1) ((x.1).2.1) ((x.1).2.2.1) ((x.1).2.2.2) ((x.2.1).1) ((x.2.1).2) x.2.2.2.2.2 tt.1 ((x.2.2.2.2.1).1) ((x.2.2.2.2.1).2.1) 0 pa bad num RA RB TH DE KI WE NX LI LM KE TX BW TI KV DM f1 f4 := hp
  rw [show KE j = (x.2.2.1 j).2.2.2.2.1 from (hMb j hj).2.2.2.2.1]
  refine lv_istore (lv' := [(7, .int ((x.2.2.1 j).2.2.2.2.1)), (6, .int 0), (0, .ref b), (1, .ref (ad 0)), (2, .ref (ad 16)), (3, .ref (ad 32)), (4, .ref (ad 33)), (5, .int (nI si))]) hx hb dL_law_701 hl (by decide) rfl (fun ls hl => ?_)
  refine lv_aload_n hx hb dL_law_703 rfl (lv_at hl 4 rfl) ?_
  refine kV_I (C := RX7) (T := TX7) (N := 31) (As := []) (rest := []) ⟨hx, hb, hml, hown, hts⟩ (c_X7_thrown l G dA L f4 ad (nl + 1) nb q qk ((x.1).1) ((x.1).2.1) ((x.1).2.2.1) ((x.1).2.2.2) ((x.2.1).1) ((x.2.1).2) x.2.2.2.2.2 tt.1 ((x.2.2.2.2.1).1) ((x.2.2.2.2.1).2.1) 0 pa bad num RA RB TH DE KI WE NX LI LM KE TX BW TI KV DM f1 hC hX2) (cwV 0 hts gL_law_X7_thrown rfl rfl rfl (by decide +kernel) ⟨Nat.le_of_ble_eq_true rfl, Nat.le_of_ble_eq_true rfl⟩) hw hA (hC.m (by decide)) hX2.o rfl rfl hl.1 rfl (Nat.le_of_ble_eq_true rfl) dL_law_704 ⟨hc1, hs1⟩ (fun r6 f7 H locs hp hw => ?_)
  obtain ⟨e1, e2⟩ := hp
  rw [e2] at hw
  rw [e1]
  refine lv_iload hx hb dL_law_707 (lv_at hl 1 rfl) ?_
  refine lv_icmp_eq (tgt := 714) hx hb dL_law_709 (by decide) (fun _ => ?_) (fun c9 => absurd rfl c9)
  refine lv_iload hx hb dL_law_714 (lv_at hl 1 rfl) ?_
  refine lv_if_ne (tgt := 731) hx hb dL_law_716 (by decide) (fun c9 => absurd c9 (fun h7 => h7 rfl)) (fun _ => ?_)
  refine lv_aload_n hx hb dL_law_719 rfl (lv_at hl 5 rfl) ?_
  refine lv_iconst (v := 0) hx hb dL_law_720 (by decide) ?_
  refine wld_l hx hb hw (hC.m (by decide)) ((hX2.fr (by omega) (by omega)).trans hown9) 0 (by decide) (by decide) nI_0.symm dL_law_721 ?_
  rw [show ((vp_updL o 0 ((x.2.2.1 j).2.2.2.2.1.toInt64))) 0 = (x.2.2.1 j).2.2.2.2.1.toInt64 from vpL_s]
  refine lv_iload hx hb dL_law_722 (lv_at hl 0 rfl) ?_
  refine lv_i2l (v := ((x.2.2.1 j).2.2.2.2.1).toInt64) hx hb dL_law_724 rfl ?_
  refine W.lcmp hx hb dL_law_725 ?_
  rw [lgc_self]
  refine lv_if_eq (tgt := 731) hx hb dL_law_726 (by decide) (fun _ => ?_) (fun c9 => absurd rfl c9)
  refine lv_goto (tgt := 1177) hx hb dL_law_731 (by decide) ?_
  exact kk9 x kk tt f4 _ _ ls (LwI.of (x := x) (kk := kk) (tt := tt) hR1 ⟨_, _, _, _, _, _, _, _, _, _, _, _, _, _, _, _, _, _, hX2, hMk, hMb, hMw, hMt, hMp⟩ ⟨_, hown9⟩ ⟨_, hoth⟩ hG htt hTT) (Nat.le_add_right _ _) hw (lv_sub hl [2, 3, 4, 5, 6, 7] rfl)

set_option maxHeartbeats 4000000 in
set_option maxRecDepth 100000 in
theorem k_wet_1 {p : Program} {l : Launch} {e : Env} {s : State} {m : MethodId} {below : List Frame} {meth : Method} {c : Code} {G : va_G} {dA : Nat → ClassId} {b Ls si : Nat} {xs : Nat → Int32} {sa ad : Nat → Nat} {L : List Nat} {nl nb : Nat} {q qk : Nat → Option Nat} {x : sR} {kk : Nat → UInt64 × UInt64} {tt : sT} {f : Nat → va_E} {H : Heap} {locs : List Loc} {ls : Array Slot} {cells slots : Nat}  (hLC : LC p l s m c meth b Ls xs G dA sa ad L nl nb q qk) (hsi : si + 5 ≤ Ls) (hc1 : cells + 1 ≤ room_1.cells) (hs1 : slots + 6 ≤ room_1.slots) (hLI : LwI ad dA nl nb q qk x kk tt f) (hhr : x.2.2.2.2.2 < 2 ^ 29) (hw : ww G dA (fun z : Nat => s.heap.size ≤ z) s L f H locs) (hl : lv_has ls 10 [(0, .ref b), (1, .ref (ad 0)), (2, .ref (ad 16)), (3, .ref (ad 32)), (4, .ref (ad 33)), (5, .int (nI si))]) (hbad : xs (si + 1) < 0 ∨ nI nb ≤ xs (si + 1))
    (kk9 : ∀ (x2 : sR) (kk2 : Nat → UInt64 × UInt64) (tt2 : sT) (f2 : Nat → va_E) (H : Heap) (locs : List Loc) (ls : Array Slot), LwI ad dA nl nb q qk x2 kk2 tt2 f2 → x2.2.2.2.2.2 ≤ x.2.2.2.2.2 + 100 → ww G dA (fun z : Nat => s.heap.size ≤ z) s L f2 H locs → lv_has ls 10 [(0, .ref b), (1, .ref (ad 0)), (2, .ref (ad 16)), (3, .ref (ad 32)), (4, .ref (ad 33)), (5, .int (nI si))] → W p l e room_1 s m #[Value.ref b] below meth c H locs (cells + 1) (slots + 6) (lw_Z below #[Value.ref b] s) (F0 m 1177 ls [])) : W p l e room_1 s m #[Value.ref b] below meth c H locs cells slots (lw_Z below #[Value.ref b] s) (F0 m 734 ls []) := by
  obtain ⟨hx, hb, hml, hown, hts, hXs, hbl, hlt, hE, hC, hLs, hret, hlocks⟩ := hLC
  have hA : ∀ z : Nat, s.heap.size ≤ z → (fun z : Nat => s.heap.size ≤ z) z := fun _ h => h
  have hbA : ¬ (fun z : Nat => s.heap.size ≤ z) b := Nat.not_le.mpr hbl
  obtain ⟨hR, ⟨thr, hM⟩, ⟨o, ho⟩, ⟨od, hd⟩, hG, htt, hTT⟩ := hLI
  obtain ⟨pa, bad, num, RA, RB, TH, DE, KI, WE, NX, LI, LM, KE, TX, BW, TI, KV, DM, hX, hMk, hMb, hMw, hMt, hMp⟩ := hM
  refine lv_aload_n hx hb dL_law_734 rfl (lv_at hl 1 rfl) ?_
  refine lv_aload_n hx hb dL_law_735 rfl (lv_at hl 0 rfl) ?_
  refine lv_iload hx hb dL_law_736 (lv_at hl 5 rfl) ?_
  refine lv_iconst (v := 1) hx hb dL_law_738 (by decide) ?_
  refine lv_iadd hx hb dL_law_739 ?_
  rw [show nI si + 1 = nI (si + 1) from nI_add si 1]
  refine va_sld hx hb hXs hbl hbA hw.2.2.2 (vp_in_nI (show si + 1 < Ls by omega) (by omega)) dL_law_740 ?_
  rw [nI_clamp (show si + 1 < 2 ^ 31 by omega)]
  refine lv_aload_n hx hb dL_law_741 rfl (lv_at hl 0 rfl) ?_
  refine lv_iload hx hb dL_law_742 (lv_at hl 5 rfl) ?_
  refine lv_iconst (v := 2) hx hb dL_law_744 (by decide) ?_
  refine lv_iadd hx hb dL_law_745 ?_
  rw [show nI si + 2 = nI (si + 2) from nI_add si 2]
  refine va_sld hx hb hXs hbl hbA hw.2.2.2 (vp_in_nI (show si + 2 < Ls by omega) (by omega)) dL_law_746 ?_
  rw [nI_clamp (show si + 2 < 2 ^ 31 by omega)]
  refine lv_aload hx hb dL_law_747 (lv_at hl 4 rfl) ?_
  refine kH (As := [.ref (ad 0), .int (xs (si + 1)), .int (xs (si + 2)), .ref (ad 33)]) (rest := []) ⟨hx, hb, hml, hown, hts⟩ (h_x1_X6_wet l hlt G dA sa L f ad (nl + 1) nb q qk x.1 x.2.1 x.2.2.1 x.2.2.2.1 kk tt x.2.2.2.2.1 x.2.2.2.2.2 (xs (si + 1)) (xs (si + 2)) hC hR hbad od hd) (vx_cwSW 4 hts gL_law_L_wet rfl rfl rfl (by decide +kernel) ⟨Nat.le_of_ble_eq_true rfl, Nat.le_of_ble_eq_true rfl⟩) hw hE hA rfl hl.1 rfl (Nat.le_of_ble_eq_true rfl) dL_law_749 ⟨hc1, hs1⟩ (fun r2 f1 H locs hp hw => ?_)
  obtain ⟨e1, e2⟩ := hp
  rw [e2] at hw
  rw [e1]
  refine lv_istore (lv' := [(6, .int 1), (0, .ref b), (1, .ref (ad 0)), (2, .ref (ad 16)), (3, .ref (ad 32)), (4, .ref (ad 33)), (5, .int (nI si))]) hx hb dL_law_752 hl (by decide) rfl (fun ls hl => ?_)
  refine lv_aload_n hx hb dL_law_754 rfl (lv_at hl 3 rfl) ?_
  refine lv_aload_n hx hb dL_law_755 rfl (lv_at hl 1 rfl) ?_
  refine lv_iload hx hb dL_law_756 (lv_at hl 6 rfl) ?_
  refine lv_iconst (v := 1) hx hb dL_law_758 (by decide) ?_
  refine lv_iadd hx hb dL_law_759 ?_
  rw [show nI si + 1 = nI (si + 1) from nI_add si 1]
  refine va_sld hx hb hXs hbl hbA hw.2.2.2 (vp_in_nI (show si + 1 < Ls by omega) (by omega)) dL_law_760 ?_
  rw [nI_clamp (show si + 1 < 2 ^ 31 by omega)]
  refine lv_aload_n hx hb dL_law_761 rfl (lv_at hl 1 rfl) ?_
  refine lv_iload hx hb dL_law_762 (lv_at hl 6 rfl) ?_
  refine lv_iconst (v := 2) hx hb dL_law_764 (by decide) ?_
  refine lv_iadd hx hb dL_law_765 ?_
  rw [show nI si + 2 = nI (si + 2) from nI_add si 2]
  refine va_sld hx hb hXs hbl hbA hw.2.2.2 (vp_in_nI (show si + 2 < Ls by omega) (by omega)) dL_law_766 ?_
  rw [nI_clamp (show si + 2 < 2 ^ 31 by omega)]
  refine kV_D (C := RX7) (T := TX7) (N := 31) (As := [.int (xs (si + 1)), .int (xs (si + 2))]) (rest := []) ⟨hx, hb, hml, hown, hts⟩ (t1_X7_wet l G dA L f ad (nl + 1) nb q qk ((x.1).1) ((x.1).2.1) ((x.1).2.2.1) ((x.1).2.2.2) ((x.2.1).1) ((x.2.1).2) x.2.2.2.2.2 tt.1 ((x.2.2.2.2.1).1) ((x.2.2.2.2.1).2.1) thr pa bad num RA RB TH DE KI WE NX LI LM KE TX BW TI KV DM f (xs (si + 1)) (xs (si + 2)) hC hX (noL_t1 hbad)) (cwV 2 hts gL_law_X7_wet rfl rfl rfl (by decide +kernel) ⟨Nat.le_of_ble_eq_true rfl, Nat.le_of_ble_eq_true rfl⟩) hw hA (hC.m (by decide)) hX.o rfl rfl hl.1 rfl (Nat.le_of_ble_eq_true rfl) dL_law_767 ⟨hc1, hs1⟩ (fun r4 f3 H locs hp hw => ?_)
  have hX2 : MX ad dA (nl + 1) nb ((x.1).1) ((x.1).2.1) ((x.1).2.2.1) ((x.1).2.2.2) ((x.2.1).1) ((x.2.1).2) x.2.2.2.2.2 tt.1 ((x.2.2.2.2.1).1) ((x.2.2.2.2.1).2.1) 1 pa bad num RA RB TH DE KI WE NX LI LM KE TX BW TI KV DM f f3 := hp
  refine lv_dstore (lv' := [(7, .double r4), (6, .int 1), (0, .ref b), (1, .ref (ad 0)), (2, .ref (ad 16)), (3, .ref (ad 32)), (4, .ref (ad 33)), (5, .int (nI si))]) hx hb dL_law_770 hl (by decide) rfl (fun ls hl => ?_)
  refine lv_aload_n hx hb dL_law_772 rfl (lv_at hl 4 rfl) ?_
  refine kV_I (C := RX7) (T := TX7) (N := 31) (As := []) (rest := []) ⟨hx, hb, hml, hown, hts⟩ (c_X7_thrown l G dA L f3 ad (nl + 1) nb q qk ((x.1).1) ((x.1).2.1) ((x.1).2.2.1) ((x.1).2.2.2) ((x.2.1).1) ((x.2.1).2) x.2.2.2.2.2 tt.1 ((x.2.2.2.2.1).1) ((x.2.2.2.2.1).2.1) 1 pa bad num RA RB TH DE KI WE NX LI LM KE TX BW TI KV DM f hC hX2) (cwV 0 hts gL_law_X7_thrown rfl rfl rfl (by decide +kernel) ⟨Nat.le_of_ble_eq_true rfl, Nat.le_of_ble_eq_true rfl⟩) hw hA (hC.m (by decide)) hX2.o rfl rfl hl.1 rfl (Nat.le_of_ble_eq_true rfl) dL_law_773 ⟨hc1, hs1⟩ (fun r5 f6 H locs hp hw => ?_)
  obtain ⟨e1, e2⟩ := hp
  rw [e2] at hw
  rw [e1]
  refine lv_iload hx hb dL_law_776 (lv_at hl 1 rfl) ?_
  refine lv_icmp_eq (tgt := 783) hx hb dL_law_778 (by decide) (fun _ => ?_) (fun c9 => absurd rfl c9)
  refine lv_iload hx hb dL_law_783 (lv_at hl 1 rfl) ?_
  refine lv_if_ne (tgt := 820) hx hb dL_law_785 (by decide) (fun _ => ?_) (fun c9 => absurd c9 (by decide))
  refine lv_goto (tgt := 1177) hx hb dL_law_820 (by decide) ?_
  exact kk9 x kk tt f3 _ _ ls (LwI.of (x := x) (kk := kk) (tt := tt) hR ⟨_, _, _, _, _, _, _, _, _, _, _, _, _, _, _, _, _, _, hX2, hMk, hMb, hMw, hMt, hMp⟩ ⟨_, ho⟩ ⟨_, hd⟩ hG htt hTT) (Nat.le_add_right _ _) hw (lv_sub hl [2, 3, 4, 5, 6, 7] rfl)

set_option maxHeartbeats 4000000 in
set_option maxRecDepth 100000 in
theorem k_wet_2 {p : Program} {l : Launch} {e : Env} {s : State} {m : MethodId} {below : List Frame} {meth : Method} {c : Code} {G : va_G} {dA : Nat → ClassId} {b Ls si : Nat} {xs : Nat → Int32} {sa ad : Nat → Nat} {L : List Nat} {nl nb : Nat} {q qk : Nat → Option Nat} {x : sR} {kk : Nat → UInt64 × UInt64} {tt : sT} {f : Nat → va_E} {H : Heap} {locs : List Loc} {ls : Array Slot} {cells slots : Nat} (j : Nat) (hLC : LC p l s m c meth b Ls xs G dA sa ad L nl nb q qk) (hsi : si + 5 ≤ Ls) (hc1 : cells + 1 ≤ room_1.cells) (hs1 : slots + 6 ≤ room_1.slots) (hLI : LwI ad dA nl nb q qk x kk tt f) (hhr : x.2.2.2.2.2 < 2 ^ 29) (hw : ww G dA (fun z : Nat => s.heap.size ≤ z) s L f H locs) (hl : lv_has ls 10 [(0, .ref b), (1, .ref (ad 0)), (2, .ref (ad 16)), (3, .ref (ad 32)), (4, .ref (ad 33)), (5, .int (nI si))]) (hj : j < nb) (hj1 : xs (si + 1) = nI j) (hbad : xs (si + 2) < 0 ∨ nI (nl + 1) ≤ xs (si + 2))
    (kk9 : ∀ (x2 : sR) (kk2 : Nat → UInt64 × UInt64) (tt2 : sT) (f2 : Nat → va_E) (H : Heap) (locs : List Loc) (ls : Array Slot), LwI ad dA nl nb q qk x2 kk2 tt2 f2 → x2.2.2.2.2.2 ≤ x.2.2.2.2.2 + 100 → ww G dA (fun z : Nat => s.heap.size ≤ z) s L f2 H locs → lv_has ls 10 [(0, .ref b), (1, .ref (ad 0)), (2, .ref (ad 16)), (3, .ref (ad 32)), (4, .ref (ad 33)), (5, .int (nI si))] → W p l e room_1 s m #[Value.ref b] below meth c H locs (cells + 1) (slots + 6) (lw_Z below #[Value.ref b] s) (F0 m 1177 ls [])) : W p l e room_1 s m #[Value.ref b] below meth c H locs cells slots (lw_Z below #[Value.ref b] s) (F0 m 734 ls []) := by
  obtain ⟨hx, hb, hml, hown, hts, hXs, hbl, hlt, hE, hC, hLs, hret, hlocks⟩ := hLC
  have hA : ∀ z : Nat, s.heap.size ≤ z → (fun z : Nat => s.heap.size ≤ z) z := fun _ h => h
  have hbA : ¬ (fun z : Nat => s.heap.size ≤ z) b := Nat.not_le.mpr hbl
  obtain ⟨hR, ⟨thr, hM⟩, ⟨o, ho⟩, ⟨od, hd⟩, hG, htt, hTT⟩ := hLI
  obtain ⟨pa, bad, num, RA, RB, TH, DE, KI, WE, NX, LI, LM, KE, TX, BW, TI, KV, DM, hX, hMk, hMb, hMw, hMt, hMp⟩ := hM
  refine lv_aload_n hx hb dL_law_734 rfl (lv_at hl 1 rfl) ?_
  refine lv_aload_n hx hb dL_law_735 rfl (lv_at hl 0 rfl) ?_
  refine lv_iload hx hb dL_law_736 (lv_at hl 5 rfl) ?_
  refine lv_iconst (v := 1) hx hb dL_law_738 (by decide) ?_
  refine lv_iadd hx hb dL_law_739 ?_
  rw [show nI si + 1 = nI (si + 1) from nI_add si 1]
  refine va_sld hx hb hXs hbl hbA hw.2.2.2 (vp_in_nI (show si + 1 < Ls by omega) (by omega)) dL_law_740 ?_
  rw [nI_clamp (show si + 1 < 2 ^ 31 by omega)]
  rw [hj1]
  refine lv_aload_n hx hb dL_law_741 rfl (lv_at hl 0 rfl) ?_
  refine lv_iload hx hb dL_law_742 (lv_at hl 5 rfl) ?_
  refine lv_iconst (v := 2) hx hb dL_law_744 (by decide) ?_
  refine lv_iadd hx hb dL_law_745 ?_
  rw [show nI si + 2 = nI (si + 2) from nI_add si 2]
  refine va_sld hx hb hXs hbl hbA hw.2.2.2 (vp_in_nI (show si + 2 < Ls by omega) (by omega)) dL_law_746 ?_
  rw [nI_clamp (show si + 2 < 2 ^ 31 by omega)]
  refine lv_aload hx hb dL_law_747 (lv_at hl 4 rfl) ?_
  refine kH (As := [.ref (ad 0), .int (nI j), .int (xs (si + 2)), .ref (ad 33)]) (rest := []) ⟨hx, hb, hml, hown, hts⟩ (h_x2_X6_wet l hlt G dA sa L f ad (nl + 1) nb q qk x.1 x.2.1 x.2.2.1 x.2.2.2.1 kk tt x.2.2.2.2.1 x.2.2.2.2.2 j (xs (si + 2)) hC hR hj hbad od hd) (vx_cwSW 4 hts gL_law_L_wet rfl rfl rfl (by decide +kernel) ⟨Nat.le_of_ble_eq_true rfl, Nat.le_of_ble_eq_true rfl⟩) hw hE hA rfl hl.1 rfl (Nat.le_of_ble_eq_true rfl) dL_law_749 ⟨hc1, hs1⟩ (fun r2 f1 H locs hp hw => ?_)
  obtain ⟨e1, e2⟩ := hp
  rw [e2] at hw
  rw [e1]
  refine lv_istore (lv' := [(6, .int 1), (0, .ref b), (1, .ref (ad 0)), (2, .ref (ad 16)), (3, .ref (ad 32)), (4, .ref (ad 33)), (5, .int (nI si))]) hx hb dL_law_752 hl (by decide) rfl (fun ls hl => ?_)
  refine lv_aload_n hx hb dL_law_754 rfl (lv_at hl 3 rfl) ?_
  refine lv_aload_n hx hb dL_law_755 rfl (lv_at hl 1 rfl) ?_
  refine lv_iload hx hb dL_law_756 (lv_at hl 6 rfl) ?_
  refine lv_iconst (v := 1) hx hb dL_law_758 (by decide) ?_
  refine lv_iadd hx hb dL_law_759 ?_
  rw [show nI si + 1 = nI (si + 1) from nI_add si 1]
  refine va_sld hx hb hXs hbl hbA hw.2.2.2 (vp_in_nI (show si + 1 < Ls by omega) (by omega)) dL_law_760 ?_
  rw [nI_clamp (show si + 1 < 2 ^ 31 by omega)]
  rw [hj1]
  refine lv_aload_n hx hb dL_law_761 rfl (lv_at hl 1 rfl) ?_
  refine lv_iload hx hb dL_law_762 (lv_at hl 6 rfl) ?_
  refine lv_iconst (v := 2) hx hb dL_law_764 (by decide) ?_
  refine lv_iadd hx hb dL_law_765 ?_
  rw [show nI si + 2 = nI (si + 2) from nI_add si 2]
  refine va_sld hx hb hXs hbl hbA hw.2.2.2 (vp_in_nI (show si + 2 < Ls by omega) (by omega)) dL_law_766 ?_
  rw [nI_clamp (show si + 2 < 2 ^ 31 by omega)]
  refine kV_D (C := RX7) (T := TX7) (N := 31) (As := [.int (nI j), .int (xs (si + 2))]) (rest := []) ⟨hx, hb, hml, hown, hts⟩ (t1_X7_wet l G dA L f ad (nl + 1) nb q qk ((x.1).1) ((x.1).2.1) ((x.1).2.2.1) ((x.1).2.2.2) ((x.2.1).1) ((x.2.1).2) x.2.2.2.2.2 tt.1 ((x.2.2.2.2.1).1) ((x.2.2.2.2.1).2.1) thr pa bad num RA RB TH DE KI WE NX LI LM KE TX BW TI KV DM f (nI j) (xs (si + 2)) hC hX (noL_t2 hbad)) (cwV 2 hts gL_law_X7_wet rfl rfl rfl (by decide +kernel) ⟨Nat.le_of_ble_eq_true rfl, Nat.le_of_ble_eq_true rfl⟩) hw hA (hC.m (by decide)) hX.o rfl rfl hl.1 rfl (Nat.le_of_ble_eq_true rfl) dL_law_767 ⟨hc1, hs1⟩ (fun r4 f3 H locs hp hw => ?_)
  have hX2 : MX ad dA (nl + 1) nb ((x.1).1) ((x.1).2.1) ((x.1).2.2.1) ((x.1).2.2.2) ((x.2.1).1) ((x.2.1).2) x.2.2.2.2.2 tt.1 ((x.2.2.2.2.1).1) ((x.2.2.2.2.1).2.1) 1 pa bad num RA RB TH DE KI WE NX LI LM KE TX BW TI KV DM f f3 := hp
  refine lv_dstore (lv' := [(7, .double r4), (6, .int 1), (0, .ref b), (1, .ref (ad 0)), (2, .ref (ad 16)), (3, .ref (ad 32)), (4, .ref (ad 33)), (5, .int (nI si))]) hx hb dL_law_770 hl (by decide) rfl (fun ls hl => ?_)
  refine lv_aload_n hx hb dL_law_772 rfl (lv_at hl 4 rfl) ?_
  refine kV_I (C := RX7) (T := TX7) (N := 31) (As := []) (rest := []) ⟨hx, hb, hml, hown, hts⟩ (c_X7_thrown l G dA L f3 ad (nl + 1) nb q qk ((x.1).1) ((x.1).2.1) ((x.1).2.2.1) ((x.1).2.2.2) ((x.2.1).1) ((x.2.1).2) x.2.2.2.2.2 tt.1 ((x.2.2.2.2.1).1) ((x.2.2.2.2.1).2.1) 1 pa bad num RA RB TH DE KI WE NX LI LM KE TX BW TI KV DM f hC hX2) (cwV 0 hts gL_law_X7_thrown rfl rfl rfl (by decide +kernel) ⟨Nat.le_of_ble_eq_true rfl, Nat.le_of_ble_eq_true rfl⟩) hw hA (hC.m (by decide)) hX2.o rfl rfl hl.1 rfl (Nat.le_of_ble_eq_true rfl) dL_law_773 ⟨hc1, hs1⟩ (fun r5 f6 H locs hp hw => ?_)
  obtain ⟨e1, e2⟩ := hp
  rw [e2] at hw
  rw [e1]
  refine lv_iload hx hb dL_law_776 (lv_at hl 1 rfl) ?_
  refine lv_icmp_eq (tgt := 783) hx hb dL_law_778 (by decide) (fun _ => ?_) (fun c9 => absurd rfl c9)
  refine lv_iload hx hb dL_law_783 (lv_at hl 1 rfl) ?_
  refine lv_if_ne (tgt := 820) hx hb dL_law_785 (by decide) (fun _ => ?_) (fun c9 => absurd c9 (by decide))
  refine lv_goto (tgt := 1177) hx hb dL_law_820 (by decide) ?_
  exact kk9 x kk tt f3 _ _ ls (LwI.of (x := x) (kk := kk) (tt := tt) hR ⟨_, _, _, _, _, _, _, _, _, _, _, _, _, _, _, _, _, _, hX2, hMk, hMb, hMw, hMt, hMp⟩ ⟨_, ho⟩ ⟨_, hd⟩ hG htt hTT) (Nat.le_add_right _ _) hw (lv_sub hl [2, 3, 4, 5, 6, 7] rfl)

set_option maxHeartbeats 4000000 in
set_option maxRecDepth 100000 in
theorem k_wet_3 {p : Program} {l : Launch} {e : Env} {s : State} {m : MethodId} {below : List Frame} {meth : Method} {c : Code} {G : va_G} {dA : Nat → ClassId} {b Ls si : Nat} {xs : Nat → Int32} {sa ad : Nat → Nat} {L : List Nat} {nl nb : Nat} {q qk : Nat → Option Nat} {x : sR} {kk : Nat → UInt64 × UInt64} {tt : sT} {f : Nat → va_E} {H : Heap} {locs : List Loc} {ls : Array Slot} {cells slots : Nat} (j k : Nat) (hLC : LC p l s m c meth b Ls xs G dA sa ad L nl nb q qk) (hsi : si + 5 ≤ Ls) (hc1 : cells + 1 ≤ room_1.cells) (hs1 : slots + 6 ≤ room_1.slots) (hLI : LwI ad dA nl nb q qk x kk tt f) (hhr : x.2.2.2.2.2 < 2 ^ 29) (hw : ww G dA (fun z : Nat => s.heap.size ≤ z) s L f H locs) (hl : lv_has ls 10 [(0, .ref b), (1, .ref (ad 0)), (2, .ref (ad 16)), (3, .ref (ad 32)), (4, .ref (ad 33)), (5, .int (nI si))]) (hj : j < nb) (hj1 : xs (si + 1) = nI j) (hi : k < (nl + 1)) (hi1 : xs (si + 2) = nI k) (hbad : (x.2.2.1 j).1 = 0)
    (kk9 : ∀ (x2 : sR) (kk2 : Nat → UInt64 × UInt64) (tt2 : sT) (f2 : Nat → va_E) (H : Heap) (locs : List Loc) (ls : Array Slot), LwI ad dA nl nb q qk x2 kk2 tt2 f2 → x2.2.2.2.2.2 ≤ x.2.2.2.2.2 + 100 → ww G dA (fun z : Nat => s.heap.size ≤ z) s L f2 H locs → lv_has ls 10 [(0, .ref b), (1, .ref (ad 0)), (2, .ref (ad 16)), (3, .ref (ad 32)), (4, .ref (ad 33)), (5, .int (nI si))] → W p l e room_1 s m #[Value.ref b] below meth c H locs (cells + 1) (slots + 6) (lw_Z below #[Value.ref b] s) (F0 m 1177 ls [])) : W p l e room_1 s m #[Value.ref b] below meth c H locs cells slots (lw_Z below #[Value.ref b] s) (F0 m 734 ls []) := by
  obtain ⟨hx, hb, hml, hown, hts, hXs, hbl, hlt, hE, hC, hLs, hret, hlocks⟩ := hLC
  have hA : ∀ z : Nat, s.heap.size ≤ z → (fun z : Nat => s.heap.size ≤ z) z := fun _ h => h
  have hbA : ¬ (fun z : Nat => s.heap.size ≤ z) b := Nat.not_le.mpr hbl
  obtain ⟨hR, ⟨thr, hM⟩, ⟨o, ho⟩, ⟨od, hd⟩, hG, htt, hTT⟩ := hLI
  obtain ⟨pa, bad, num, RA, RB, TH, DE, KI, WE, NX, LI, LM, KE, TX, BW, TI, KV, DM, hX, hMk, hMb, hMw, hMt, hMp⟩ := hM
  refine lv_aload_n hx hb dL_law_734 rfl (lv_at hl 1 rfl) ?_
  refine lv_aload_n hx hb dL_law_735 rfl (lv_at hl 0 rfl) ?_
  refine lv_iload hx hb dL_law_736 (lv_at hl 5 rfl) ?_
  refine lv_iconst (v := 1) hx hb dL_law_738 (by decide) ?_
  refine lv_iadd hx hb dL_law_739 ?_
  rw [show nI si + 1 = nI (si + 1) from nI_add si 1]
  refine va_sld hx hb hXs hbl hbA hw.2.2.2 (vp_in_nI (show si + 1 < Ls by omega) (by omega)) dL_law_740 ?_
  rw [nI_clamp (show si + 1 < 2 ^ 31 by omega)]
  rw [hj1]
  refine lv_aload_n hx hb dL_law_741 rfl (lv_at hl 0 rfl) ?_
  refine lv_iload hx hb dL_law_742 (lv_at hl 5 rfl) ?_
  refine lv_iconst (v := 2) hx hb dL_law_744 (by decide) ?_
  refine lv_iadd hx hb dL_law_745 ?_
  rw [show nI si + 2 = nI (si + 2) from nI_add si 2]
  refine va_sld hx hb hXs hbl hbA hw.2.2.2 (vp_in_nI (show si + 2 < Ls by omega) (by omega)) dL_law_746 ?_
  rw [nI_clamp (show si + 2 < 2 ^ 31 by omega)]
  rw [hi1]
  refine lv_aload hx hb dL_law_747 (lv_at hl 4 rfl) ?_
  refine kH (As := [.ref (ad 0), .int (nI j), .int (nI k), .ref (ad 33)]) (rest := []) ⟨hx, hb, hml, hown, hts⟩ (h_x3_X6_wet l hlt G dA sa L f ad (nl + 1) nb q qk x.1 x.2.1 x.2.2.1 x.2.2.2.1 kk tt x.2.2.2.2.1 x.2.2.2.2.2 j k hC hR hj hi hbad od hd) (vx_cwSW 4 hts gL_law_L_wet rfl rfl rfl (by decide +kernel) ⟨Nat.le_of_ble_eq_true rfl, Nat.le_of_ble_eq_true rfl⟩) hw hE hA rfl hl.1 rfl (Nat.le_of_ble_eq_true rfl) dL_law_749 ⟨hc1, hs1⟩ (fun r2 f1 H locs hp hw => ?_)
  obtain ⟨e1, e2⟩ := hp
  rw [e2] at hw
  rw [e1]
  refine lv_istore (lv' := [(6, .int 2), (0, .ref b), (1, .ref (ad 0)), (2, .ref (ad 16)), (3, .ref (ad 32)), (4, .ref (ad 33)), (5, .int (nI si))]) hx hb dL_law_752 hl (by decide) rfl (fun ls hl => ?_)
  refine lv_aload_n hx hb dL_law_754 rfl (lv_at hl 3 rfl) ?_
  refine lv_aload_n hx hb dL_law_755 rfl (lv_at hl 1 rfl) ?_
  refine lv_iload hx hb dL_law_756 (lv_at hl 6 rfl) ?_
  refine lv_iconst (v := 1) hx hb dL_law_758 (by decide) ?_
  refine lv_iadd hx hb dL_law_759 ?_
  rw [show nI si + 1 = nI (si + 1) from nI_add si 1]
  refine va_sld hx hb hXs hbl hbA hw.2.2.2 (vp_in_nI (show si + 1 < Ls by omega) (by omega)) dL_law_760 ?_
  rw [nI_clamp (show si + 1 < 2 ^ 31 by omega)]
  rw [hj1]
  refine lv_aload_n hx hb dL_law_761 rfl (lv_at hl 1 rfl) ?_
  refine lv_iload hx hb dL_law_762 (lv_at hl 6 rfl) ?_
  refine lv_iconst (v := 2) hx hb dL_law_764 (by decide) ?_
  refine lv_iadd hx hb dL_law_765 ?_
  rw [show nI si + 2 = nI (si + 2) from nI_add si 2]
  refine va_sld hx hb hXs hbl hbA hw.2.2.2 (vp_in_nI (show si + 2 < Ls by omega) (by omega)) dL_law_766 ?_
  rw [nI_clamp (show si + 2 < 2 ^ 31 by omega)]
  rw [hi1]
  refine kV_D (C := RX7) (T := TX7) (N := 31) (As := [.int (nI j), .int (nI k)]) (rest := []) ⟨hx, hb, hml, hown, hts⟩ (t2_X7_wet l G dA L f ad (nl + 1) nb q qk ((x.1).1) ((x.1).2.1) ((x.1).2.2.1) ((x.1).2.2.2) ((x.2.1).1) ((x.2.1).2) x.2.2.2.2.2 tt.1 ((x.2.2.2.2.1).1) ((x.2.2.2.2.1).2.1) thr pa bad num RA RB TH DE KI WE NX LI LM KE TX BW TI KV DM f j k hC hX hj hi ((hMb j hj).1.trans hbad)) (cwV 2 hts gL_law_X7_wet rfl rfl rfl (by decide +kernel) ⟨Nat.le_of_ble_eq_true rfl, Nat.le_of_ble_eq_true rfl⟩) hw hA (hC.m (by decide)) hX.o rfl rfl hl.1 rfl (Nat.le_of_ble_eq_true rfl) dL_law_767 ⟨hc1, hs1⟩ (fun r4 f3 H locs hp hw => ?_)
  have hX2 : MX ad dA (nl + 1) nb ((x.1).1) ((x.1).2.1) ((x.1).2.2.1) ((x.1).2.2.2) ((x.2.1).1) ((x.2.1).2) x.2.2.2.2.2 tt.1 ((x.2.2.2.2.1).1) ((x.2.2.2.2.1).2.1) 2 pa bad num RA RB TH DE KI WE NX LI LM KE TX BW TI KV DM f f3 := hp
  refine lv_dstore (lv' := [(7, .double r4), (6, .int 2), (0, .ref b), (1, .ref (ad 0)), (2, .ref (ad 16)), (3, .ref (ad 32)), (4, .ref (ad 33)), (5, .int (nI si))]) hx hb dL_law_770 hl (by decide) rfl (fun ls hl => ?_)
  refine lv_aload_n hx hb dL_law_772 rfl (lv_at hl 4 rfl) ?_
  refine kV_I (C := RX7) (T := TX7) (N := 31) (As := []) (rest := []) ⟨hx, hb, hml, hown, hts⟩ (c_X7_thrown l G dA L f3 ad (nl + 1) nb q qk ((x.1).1) ((x.1).2.1) ((x.1).2.2.1) ((x.1).2.2.2) ((x.2.1).1) ((x.2.1).2) x.2.2.2.2.2 tt.1 ((x.2.2.2.2.1).1) ((x.2.2.2.2.1).2.1) 2 pa bad num RA RB TH DE KI WE NX LI LM KE TX BW TI KV DM f hC hX2) (cwV 0 hts gL_law_X7_thrown rfl rfl rfl (by decide +kernel) ⟨Nat.le_of_ble_eq_true rfl, Nat.le_of_ble_eq_true rfl⟩) hw hA (hC.m (by decide)) hX2.o rfl rfl hl.1 rfl (Nat.le_of_ble_eq_true rfl) dL_law_773 ⟨hc1, hs1⟩ (fun r5 f6 H locs hp hw => ?_)
  obtain ⟨e1, e2⟩ := hp
  rw [e2] at hw
  rw [e1]
  refine lv_iload hx hb dL_law_776 (lv_at hl 1 rfl) ?_
  refine lv_icmp_eq (tgt := 783) hx hb dL_law_778 (by decide) (fun _ => ?_) (fun c9 => absurd rfl c9)
  refine lv_iload hx hb dL_law_783 (lv_at hl 1 rfl) ?_
  refine lv_if_ne (tgt := 820) hx hb dL_law_785 (by decide) (fun _ => ?_) (fun c9 => absurd c9 (by decide))
  refine lv_goto (tgt := 1177) hx hb dL_law_820 (by decide) ?_
  exact kk9 x kk tt f3 _ _ ls (LwI.of (x := x) (kk := kk) (tt := tt) hR ⟨_, _, _, _, _, _, _, _, _, _, _, _, _, _, _, _, _, _, hX2, hMk, hMb, hMw, hMt, hMp⟩ ⟨_, ho⟩ ⟨_, hd⟩ hG htt hTT) (Nat.le_add_right _ _) hw (lv_sub hl [2, 3, 4, 5, 6, 7] rfl)

set_option maxHeartbeats 4000000 in
set_option maxRecDepth 100000 in
theorem k_wet_0 {p : Program} {l : Launch} {e : Env} {s : State} {m : MethodId} {below : List Frame} {meth : Method} {c : Code} {G : va_G} {dA : Nat → ClassId} {b Ls si : Nat} {xs : Nat → Int32} {sa ad : Nat → Nat} {L : List Nat} {nl nb : Nat} {q qk : Nat → Option Nat} {x : sR} {kk : Nat → UInt64 × UInt64} {tt : sT} {f : Nat → va_E} {H : Heap} {locs : List Loc} {ls : Array Slot} {cells slots : Nat} (j k : Nat) (hLC : LC p l s m c meth b Ls xs G dA sa ad L nl nb q qk) (hsi : si + 5 ≤ Ls) (hc1 : cells + 1 ≤ room_1.cells) (hs1 : slots + 6 ≤ room_1.slots) (hLI : LwI ad dA nl nb q qk x kk tt f) (hhr : x.2.2.2.2.2 < 2 ^ 29) (hw : ww G dA (fun z : Nat => s.heap.size ≤ z) s L f H locs) (hl : lv_has ls 10 [(0, .ref b), (1, .ref (ad 0)), (2, .ref (ad 16)), (3, .ref (ad 32)), (4, .ref (ad 33)), (5, .int (nI si))]) (hj : j < nb) (hj1 : xs (si + 1) = nI j) (hi : k < (nl + 1)) (hi1 : xs (si + 2) = nI k) (hth : ¬ (x.2.2.1 j).1 = 0)
    (kk9 : ∀ (x2 : sR) (kk2 : Nat → UInt64 × UInt64) (tt2 : sT) (f2 : Nat → va_E) (H : Heap) (locs : List Loc) (ls : Array Slot), LwI ad dA nl nb q qk x2 kk2 tt2 f2 → x2.2.2.2.2.2 ≤ x.2.2.2.2.2 + 100 → ww G dA (fun z : Nat => s.heap.size ≤ z) s L f2 H locs → lv_has ls 10 [(0, .ref b), (1, .ref (ad 0)), (2, .ref (ad 16)), (3, .ref (ad 32)), (4, .ref (ad 33)), (5, .int (nI si))] → W p l e room_1 s m #[Value.ref b] below meth c H locs (cells + 1) (slots + 6) (lw_Z below #[Value.ref b] s) (F0 m 1177 ls [])) : W p l e room_1 s m #[Value.ref b] below meth c H locs cells slots (lw_Z below #[Value.ref b] s) (F0 m 734 ls []) := by
  obtain ⟨hx, hb, hml, hown, hts, hXs, hbl, hlt, hE, hC, hLs, hret, hlocks⟩ := hLC
  have hA : ∀ z : Nat, s.heap.size ≤ z → (fun z : Nat => s.heap.size ≤ z) z := fun _ h => h
  have hbA : ¬ (fun z : Nat => s.heap.size ≤ z) b := Nat.not_le.mpr hbl
  obtain ⟨hR, ⟨thr, hM⟩, ⟨o, ho⟩, ⟨od, hd⟩, hG, htt, hTT⟩ := hLI
  obtain ⟨pa, bad, num, RA, RB, TH, DE, KI, WE, NX, LI, LM, KE, TX, BW, TI, KV, DM, hX, hMk, hMb, hMw, hMt, hMp⟩ := hM
  refine lv_aload_n hx hb dL_law_734 rfl (lv_at hl 1 rfl) ?_
  refine lv_aload_n hx hb dL_law_735 rfl (lv_at hl 0 rfl) ?_
  refine lv_iload hx hb dL_law_736 (lv_at hl 5 rfl) ?_
  refine lv_iconst (v := 1) hx hb dL_law_738 (by decide) ?_
  refine lv_iadd hx hb dL_law_739 ?_
  rw [show nI si + 1 = nI (si + 1) from nI_add si 1]
  refine va_sld hx hb hXs hbl hbA hw.2.2.2 (vp_in_nI (show si + 1 < Ls by omega) (by omega)) dL_law_740 ?_
  rw [nI_clamp (show si + 1 < 2 ^ 31 by omega)]
  rw [hj1]
  refine lv_aload_n hx hb dL_law_741 rfl (lv_at hl 0 rfl) ?_
  refine lv_iload hx hb dL_law_742 (lv_at hl 5 rfl) ?_
  refine lv_iconst (v := 2) hx hb dL_law_744 (by decide) ?_
  refine lv_iadd hx hb dL_law_745 ?_
  rw [show nI si + 2 = nI (si + 2) from nI_add si 2]
  refine va_sld hx hb hXs hbl hbA hw.2.2.2 (vp_in_nI (show si + 2 < Ls by omega) (by omega)) dL_law_746 ?_
  rw [nI_clamp (show si + 2 < 2 ^ 31 by omega)]
  rw [hi1]
  refine lv_aload hx hb dL_law_747 (lv_at hl 4 rfl) ?_
  refine kH (As := [.ref (ad 0), .int (nI j), .int (nI k), .ref (ad 33)]) (rest := []) ⟨hx, hb, hml, hown, hts⟩ (h_c_X6_wet l hlt G dA sa L f ad (nl + 1) nb q qk x.1 x.2.1 x.2.2.1 x.2.2.2.1 kk tt x.2.2.2.2.1 x.2.2.2.2.2 j k hC hR hj hi hth od hd) (vx_cwSW 4 hts gL_law_L_wet rfl rfl rfl (by decide +kernel) ⟨Nat.le_of_ble_eq_true rfl, Nat.le_of_ble_eq_true rfl⟩) hw hE hA rfl hl.1 rfl (Nat.le_of_ble_eq_true rfl) dL_law_749 ⟨hc1, hs1⟩ (fun r2 f1 H locs hp hw => ?_)
  obtain ⟨e1, hp⟩ := hp
  rw [e1]
  have ef : f1 = va_up f (ad 33) (aD (dA 1) 1 (vf_upd od 0 (x.2.2.2.1 j k))) := hp
  have hR1 : RC ad dA (nl + 1) nb q qk x.1 x.2.1 x.2.2.1 x.2.2.2.1 kk tt x.2.2.2.2.1 x.2.2.2.2.2 f1 f1 := hR.mv (fun i hi h => by rw [ef]; exact va_up_ne _ _ (hC.ne hi (by omega) (by omega))) (fun _ _ _ => rfl)
  have hX3 : MX ad dA (nl + 1) nb ((x.1).1) ((x.1).2.1) ((x.1).2.2.1) ((x.1).2.2.2) ((x.2.1).1) ((x.2.1).2) x.2.2.2.2.2 tt.1 ((x.2.2.2.2.1).1) ((x.2.2.2.2.1).2.1) thr pa bad num RA RB TH DE KI WE NX LI LM KE TX BW TI KV DM f1 f1 := hX.mv (fun i h1 h2 => by rw [ef]; exact va_up_ne _ _ (hC.ne (by omega) (by omega) (by omega))) (fun _ _ _ => rfl)
  have hoth : f1 (ad 32) = aL (dA 4) 1 o := by rw [ef]; exact (va_up_ne _ _ (hC.ne (by omega) (by omega) (by decide))).trans ho
  have hown9 : f1 (ad 33) = aD (dA 1) 1 (vf_upd od 0 (x.2.2.2.1 j k)) := by rw [ef]; exact va_up_self _ _ _
  refine lv_istore (lv' := [(6, .int 0), (0, .ref b), (1, .ref (ad 0)), (2, .ref (ad 16)), (3, .ref (ad 32)), (4, .ref (ad 33)), (5, .int (nI si))]) hx hb dL_law_752 hl (by decide) rfl (fun ls hl => ?_)
  refine lv_aload_n hx hb dL_law_754 rfl (lv_at hl 3 rfl) ?_
  refine lv_aload_n hx hb dL_law_755 rfl (lv_at hl 1 rfl) ?_
  refine lv_iload hx hb dL_law_756 (lv_at hl 6 rfl) ?_
  refine lv_iconst (v := 1) hx hb dL_law_758 (by decide) ?_
  refine lv_iadd hx hb dL_law_759 ?_
  rw [show nI si + 1 = nI (si + 1) from nI_add si 1]
  refine va_sld hx hb hXs hbl hbA hw.2.2.2 (vp_in_nI (show si + 1 < Ls by omega) (by omega)) dL_law_760 ?_
  rw [nI_clamp (show si + 1 < 2 ^ 31 by omega)]
  rw [hj1]
  refine lv_aload_n hx hb dL_law_761 rfl (lv_at hl 1 rfl) ?_
  refine lv_iload hx hb dL_law_762 (lv_at hl 6 rfl) ?_
  refine lv_iconst (v := 2) hx hb dL_law_764 (by decide) ?_
  refine lv_iadd hx hb dL_law_765 ?_
  rw [show nI si + 2 = nI (si + 2) from nI_add si 2]
  refine va_sld hx hb hXs hbl hbA hw.2.2.2 (vp_in_nI (show si + 2 < Ls by omega) (by omega)) dL_law_766 ?_
  rw [nI_clamp (show si + 2 < 2 ^ 31 by omega)]
  rw [hi1]
  refine kV_D (C := RX7) (T := TX7) (N := 31) (As := [.int (nI j), .int (nI k)]) (rest := []) ⟨hx, hb, hml, hown, hts⟩ (c_X7_wet l G dA L f1 ad (nl + 1) nb q qk ((x.1).1) ((x.1).2.1) ((x.1).2.2.1) ((x.1).2.2.2) ((x.2.1).1) ((x.2.1).2) x.2.2.2.2.2 tt.1 ((x.2.2.2.2.1).1) ((x.2.2.2.2.1).2.1) thr pa bad num RA RB TH DE KI WE NX LI LM KE TX BW TI KV DM f1 j k hC hX3 hj hi (fun h => hth ((hMb j hj).1.symm.trans h))) (cwV 2 hts gL_law_X7_wet rfl rfl rfl (by decide +kernel) ⟨Nat.le_of_ble_eq_true rfl, Nat.le_of_ble_eq_true rfl⟩) hw hA (hC.m (by decide)) hX3.o rfl rfl hl.1 rfl (Nat.le_of_ble_eq_true rfl) dL_law_767 ⟨hc1, hs1⟩ (fun r5 f4 H locs hp hw => ?_)
  obtain ⟨e1, hp⟩ := hp
  rw [e1]
  have hX2 : MX ad dA (nl + 1) nb ((x.1).1) ((x.1).2.1) ((x.1).2.2.1) ((x.1).2.2.2) ((x.2.1).1) ((x.2.1).2) x.2.2.2.2.2 tt.1 ((x.2.2.2.2.1).1) ((x.2.2.2.2.1).2.1) 0 pa bad num RA RB TH DE KI WE NX LI LM KE TX BW TI KV DM f1 f4 := hp
  rw [show WE (16 * j + k) = x.2.2.2.1 j k from hMw j hj k hi]
  refine lv_dstore (lv' := [(7, .double (x.2.2.2.1 j k)), (6, .int 0), (0, .ref b), (1, .ref (ad 0)), (2, .ref (ad 16)), (3, .ref (ad 32)), (4, .ref (ad 33)), (5, .int (nI si))]) hx hb dL_law_770 hl (by decide) rfl (fun ls hl => ?_)
  refine lv_aload_n hx hb dL_law_772 rfl (lv_at hl 4 rfl) ?_
  refine kV_I (C := RX7) (T := TX7) (N := 31) (As := []) (rest := []) ⟨hx, hb, hml, hown, hts⟩ (c_X7_thrown l G dA L f4 ad (nl + 1) nb q qk ((x.1).1) ((x.1).2.1) ((x.1).2.2.1) ((x.1).2.2.2) ((x.2.1).1) ((x.2.1).2) x.2.2.2.2.2 tt.1 ((x.2.2.2.2.1).1) ((x.2.2.2.2.1).2.1) 0 pa bad num RA RB TH DE KI WE NX LI LM KE TX BW TI KV DM f1 hC hX2) (cwV 0 hts gL_law_X7_thrown rfl rfl rfl (by decide +kernel) ⟨Nat.le_of_ble_eq_true rfl, Nat.le_of_ble_eq_true rfl⟩) hw hA (hC.m (by decide)) hX2.o rfl rfl hl.1 rfl (Nat.le_of_ble_eq_true rfl) dL_law_773 ⟨hc1, hs1⟩ (fun r6 f7 H locs hp hw => ?_)
  obtain ⟨e1, e2⟩ := hp
  rw [e2] at hw
  rw [e1]
  refine lv_iload hx hb dL_law_776 (lv_at hl 1 rfl) ?_
  refine lv_icmp_eq (tgt := 783) hx hb dL_law_778 (by decide) (fun _ => ?_) (fun c9 => absurd rfl c9)
  refine lv_iload hx hb dL_law_783 (lv_at hl 1 rfl) ?_
  refine lv_if_ne (tgt := 820) hx hb dL_law_785 (by decide) (fun c9 => absurd c9 (fun h7 => h7 rfl)) (fun _ => ?_)
  refine lv_aload hx hb dL_law_788 (lv_at hl 6 rfl) ?_
  refine lv_iconst (v := 0) hx hb dL_law_790 (by decide) ?_
  refine wld_d hx hb hw (hC.m (by decide)) ((hX2.fr (by omega) (by omega)).trans hown9) 0 (by decide) (by decide) nI_0.symm dL_law_791 ?_
  rw [show ((vf_upd od 0 (x.2.2.2.1 j k))) 0 = x.2.2.2.1 j k from vfD_s]
  refine lv_dload hx hb dL_law_792 (lv_at hl 0 rfl) ?_
  refine lv_dcmp hx hb dL_law_794 ?_
  refine lv_if_eq (tgt := 820) hx hb dL_law_795 (by decide) (fun c795 => ?_) (fun c795 => ?_)
  · refine lv_goto (tgt := 1177) hx hb dL_law_820 (by decide) ?_
    exact kk9 x kk tt f4 _ _ ls (LwI.of (x := x) (kk := kk) (tt := tt) hR1 ⟨_, _, _, _, _, _, _, _, _, _, _, _, _, _, _, _, _, _, hX2, hMk, hMb, hMw, hMt, hMp⟩ ⟨_, hoth⟩ ⟨_, hown9⟩ hG htt hTT) (Nat.le_add_right _ _) hw (lv_sub hl [2, 3, 4, 5, 6, 7] rfl)
  · refine lv_aload hx hb dL_law_798 (lv_at hl 6 rfl) ?_
    refine lv_iconst (v := 0) hx hb dL_law_800 (by decide) ?_
    refine wld_d hx hb hw (hC.m (by decide)) ((hX2.fr (by omega) (by omega)).trans hown9) 0 (by decide) (by decide) nI_0.symm dL_law_801 ?_
    rw [show ((vf_upd od 0 (x.2.2.2.1 j k))) 0 = x.2.2.2.1 j k from vfD_s]
    refine lv_aload hx hb dL_law_802 (lv_at hl 6 rfl) ?_
    refine lv_iconst (v := 0) hx hb dL_law_804 (by decide) ?_
    refine wld_d hx hb hw (hC.m (by decide)) ((hX2.fr (by omega) (by omega)).trans hown9) 0 (by decide) (by decide) nI_0.symm dL_law_805 ?_
    rw [show ((vf_upd od 0 (x.2.2.2.1 j k))) 0 = x.2.2.2.1 j k from vfD_s]
    refine lv_dcmp hx hb dL_law_806 ?_
    refine lv_if_eq (tgt := 818) hx hb dL_law_807 (by decide) (fun c9 => absurd c9 c795) (fun _ => ?_)
    refine lv_dload hx hb dL_law_810 (lv_at hl 0 rfl) ?_
    refine lv_dload hx hb dL_law_812 (lv_at hl 0 rfl) ?_
    refine lv_dcmp hx hb dL_law_814 ?_
    refine lv_if_ne (tgt := 820) hx hb dL_law_815 (by decide) (fun _ => ?_) (fun c9 => absurd c9 c795)
    refine lv_goto (tgt := 1177) hx hb dL_law_820 (by decide) ?_
    exact kk9 x kk tt f4 _ _ ls (LwI.of (x := x) (kk := kk) (tt := tt) hR1 ⟨_, _, _, _, _, _, _, _, _, _, _, _, _, _, _, _, _, _, hX2, hMk, hMb, hMw, hMt, hMp⟩ ⟨_, hoth⟩ ⟨_, hown9⟩ hG htt hTT) (Nat.le_add_right _ _) hw (lv_sub hl [2, 3, 4, 5, 6, 7] rfl)

set_option maxHeartbeats 4000000 in
set_option maxRecDepth 100000 in
theorem k_stress_1 {p : Program} {l : Launch} {e : Env} {s : State} {m : MethodId} {below : List Frame} {meth : Method} {c : Code} {G : va_G} {dA : Nat → ClassId} {b Ls si : Nat} {xs : Nat → Int32} {sa ad : Nat → Nat} {L : List Nat} {nl nb : Nat} {q qk : Nat → Option Nat} {x : sR} {kk : Nat → UInt64 × UInt64} {tt : sT} {f : Nat → va_E} {H : Heap} {locs : List Loc} {ls : Array Slot} {cells slots : Nat}  (hLC : LC p l s m c meth b Ls xs G dA sa ad L nl nb q qk) (hsi : si + 5 ≤ Ls) (hc1 : cells + 1 ≤ room_1.cells) (hs1 : slots + 6 ≤ room_1.slots) (hLI : LwI ad dA nl nb q qk x kk tt f) (hhr : x.2.2.2.2.2 < 2 ^ 29) (hw : ww G dA (fun z : Nat => s.heap.size ≤ z) s L f H locs) (hl : lv_has ls 10 [(0, .ref b), (1, .ref (ad 0)), (2, .ref (ad 16)), (3, .ref (ad 32)), (4, .ref (ad 33)), (5, .int (nI si))]) (hbad : xs (si + 1) < 0 ∨ nI nb ≤ xs (si + 1))
    (kk9 : ∀ (x2 : sR) (kk2 : Nat → UInt64 × UInt64) (tt2 : sT) (f2 : Nat → va_E) (H : Heap) (locs : List Loc) (ls : Array Slot), LwI ad dA nl nb q qk x2 kk2 tt2 f2 → x2.2.2.2.2.2 ≤ x.2.2.2.2.2 + 100 → ww G dA (fun z : Nat => s.heap.size ≤ z) s L f2 H locs → lv_has ls 10 [(0, .ref b), (1, .ref (ad 0)), (2, .ref (ad 16)), (3, .ref (ad 32)), (4, .ref (ad 33)), (5, .int (nI si))] → W p l e room_1 s m #[Value.ref b] below meth c H locs (cells + 1) (slots + 6) (lw_Z below #[Value.ref b] s) (F0 m 1177 ls [])) : W p l e room_1 s m #[Value.ref b] below meth c H locs cells slots (lw_Z below #[Value.ref b] s) (F0 m 900 ls []) := by
  obtain ⟨hx, hb, hml, hown, hts, hXs, hbl, hlt, hE, hC, hLs, hret, hlocks⟩ := hLC
  have hA : ∀ z : Nat, s.heap.size ≤ z → (fun z : Nat => s.heap.size ≤ z) z := fun _ h => h
  have hbA : ¬ (fun z : Nat => s.heap.size ≤ z) b := Nat.not_le.mpr hbl
  obtain ⟨hR, ⟨thr, hM⟩, ⟨o, ho⟩, ⟨od, hd⟩, hG, htt, hTT⟩ := hLI
  obtain ⟨pa, bad, num, RA, RB, TH, DE, KI, WE, NX, LI, LM, KE, TX, BW, TI, KV, DM, hX, hMk, hMb, hMw, hMt, hMp⟩ := hM
  refine lv_aload_n hx hb dL_law_900 rfl (lv_at hl 1 rfl) ?_
  refine lv_aload_n hx hb dL_law_901 rfl (lv_at hl 0 rfl) ?_
  refine lv_iload hx hb dL_law_902 (lv_at hl 5 rfl) ?_
  refine lv_iconst (v := 1) hx hb dL_law_904 (by decide) ?_
  refine lv_iadd hx hb dL_law_905 ?_
  rw [show nI si + 1 = nI (si + 1) from nI_add si 1]
  refine va_sld hx hb hXs hbl hbA hw.2.2.2 (vp_in_nI (show si + 1 < Ls by omega) (by omega)) dL_law_906 ?_
  rw [nI_clamp (show si + 1 < 2 ^ 31 by omega)]
  refine lv_aload_n hx hb dL_law_907 rfl (lv_at hl 0 rfl) ?_
  refine lv_iload hx hb dL_law_908 (lv_at hl 5 rfl) ?_
  refine lv_iconst (v := 2) hx hb dL_law_910 (by decide) ?_
  refine lv_iadd hx hb dL_law_911 ?_
  rw [show nI si + 2 = nI (si + 2) from nI_add si 2]
  refine va_sld hx hb hXs hbl hbA hw.2.2.2 (vp_in_nI (show si + 2 < Ls by omega) (by omega)) dL_law_912 ?_
  rw [nI_clamp (show si + 2 < 2 ^ 31 by omega)]
  refine lv_aload hx hb dL_law_913 (lv_at hl 4 rfl) ?_
  refine kH (As := [.ref (ad 0), .int (xs (si + 1)), .int (xs (si + 2)), .ref (ad 33)]) (rest := []) ⟨hx, hb, hml, hown, hts⟩ (h_x1_X6_stress l hlt G dA sa L f ad (nl + 1) nb q qk x.1 x.2.1 x.2.2.1 x.2.2.2.1 kk tt x.2.2.2.2.1 x.2.2.2.2.2 (xs (si + 1)) (xs (si + 2)) hC hR hbad od hd) (vx_cwSW 4 hts gL_law_L_stress rfl rfl rfl (by decide +kernel) ⟨Nat.le_of_ble_eq_true rfl, Nat.le_of_ble_eq_true rfl⟩) hw hE hA rfl hl.1 rfl (Nat.le_of_ble_eq_true rfl) dL_law_915 ⟨hc1, hs1⟩ (fun r2 f1 H locs hp hw => ?_)
  obtain ⟨e1, e2⟩ := hp
  rw [e2] at hw
  rw [e1]
  refine lv_istore (lv' := [(6, .int 1), (0, .ref b), (1, .ref (ad 0)), (2, .ref (ad 16)), (3, .ref (ad 32)), (4, .ref (ad 33)), (5, .int (nI si))]) hx hb dL_law_918 hl (by decide) rfl (fun ls hl => ?_)
  refine lv_aload_n hx hb dL_law_920 rfl (lv_at hl 3 rfl) ?_
  refine lv_aload_n hx hb dL_law_921 rfl (lv_at hl 1 rfl) ?_
  refine lv_iload hx hb dL_law_922 (lv_at hl 6 rfl) ?_
  refine lv_iconst (v := 1) hx hb dL_law_924 (by decide) ?_
  refine lv_iadd hx hb dL_law_925 ?_
  rw [show nI si + 1 = nI (si + 1) from nI_add si 1]
  refine va_sld hx hb hXs hbl hbA hw.2.2.2 (vp_in_nI (show si + 1 < Ls by omega) (by omega)) dL_law_926 ?_
  rw [nI_clamp (show si + 1 < 2 ^ 31 by omega)]
  refine lv_aload_n hx hb dL_law_927 rfl (lv_at hl 1 rfl) ?_
  refine lv_iload hx hb dL_law_928 (lv_at hl 6 rfl) ?_
  refine lv_iconst (v := 2) hx hb dL_law_930 (by decide) ?_
  refine lv_iadd hx hb dL_law_931 ?_
  rw [show nI si + 2 = nI (si + 2) from nI_add si 2]
  refine va_sld hx hb hXs hbl hbA hw.2.2.2 (vp_in_nI (show si + 2 < Ls by omega) (by omega)) dL_law_932 ?_
  rw [nI_clamp (show si + 2 < 2 ^ 31 by omega)]
  refine kV_D (C := RX7) (T := TX7) (N := 31) (As := [.int (xs (si + 1)), .int (xs (si + 2))]) (rest := []) ⟨hx, hb, hml, hown, hts⟩ (t1_X7_stress l G dA L f ad (nl + 1) nb q qk ((x.1).1) ((x.1).2.1) ((x.1).2.2.1) ((x.1).2.2.2) ((x.2.1).1) ((x.2.1).2) x.2.2.2.2.2 tt.1 ((x.2.2.2.2.1).1) ((x.2.2.2.2.1).2.1) thr pa bad num RA RB TH DE KI WE NX LI LM KE TX BW TI KV DM f (xs (si + 1)) (xs (si + 2)) hC hX (noL_t1 hbad)) (cwV 2 hts gL_law_X7_stress rfl rfl rfl (by decide +kernel) ⟨Nat.le_of_ble_eq_true rfl, Nat.le_of_ble_eq_true rfl⟩) hw hA (hC.m (by decide)) hX.o rfl rfl hl.1 rfl (Nat.le_of_ble_eq_true rfl) dL_law_933 ⟨hc1, hs1⟩ (fun r4 f3 H locs hp hw => ?_)
  have hX2 : MX ad dA (nl + 1) nb ((x.1).1) ((x.1).2.1) ((x.1).2.2.1) ((x.1).2.2.2) ((x.2.1).1) ((x.2.1).2) x.2.2.2.2.2 tt.1 ((x.2.2.2.2.1).1) ((x.2.2.2.2.1).2.1) 1 pa bad num RA RB TH DE KI WE NX LI LM KE TX BW TI KV DM f f3 := hp
  refine lv_dstore (lv' := [(7, .double r4), (6, .int 1), (0, .ref b), (1, .ref (ad 0)), (2, .ref (ad 16)), (3, .ref (ad 32)), (4, .ref (ad 33)), (5, .int (nI si))]) hx hb dL_law_936 hl (by decide) rfl (fun ls hl => ?_)
  refine lv_aload_n hx hb dL_law_938 rfl (lv_at hl 4 rfl) ?_
  refine kV_I (C := RX7) (T := TX7) (N := 31) (As := []) (rest := []) ⟨hx, hb, hml, hown, hts⟩ (c_X7_thrown l G dA L f3 ad (nl + 1) nb q qk ((x.1).1) ((x.1).2.1) ((x.1).2.2.1) ((x.1).2.2.2) ((x.2.1).1) ((x.2.1).2) x.2.2.2.2.2 tt.1 ((x.2.2.2.2.1).1) ((x.2.2.2.2.1).2.1) 1 pa bad num RA RB TH DE KI WE NX LI LM KE TX BW TI KV DM f hC hX2) (cwV 0 hts gL_law_X7_thrown rfl rfl rfl (by decide +kernel) ⟨Nat.le_of_ble_eq_true rfl, Nat.le_of_ble_eq_true rfl⟩) hw hA (hC.m (by decide)) hX2.o rfl rfl hl.1 rfl (Nat.le_of_ble_eq_true rfl) dL_law_939 ⟨hc1, hs1⟩ (fun r5 f6 H locs hp hw => ?_)
  obtain ⟨e1, e2⟩ := hp
  rw [e2] at hw
  rw [e1]
  refine lv_iload hx hb dL_law_942 (lv_at hl 1 rfl) ?_
  refine lv_icmp_eq (tgt := 949) hx hb dL_law_944 (by decide) (fun _ => ?_) (fun c9 => absurd rfl c9)
  refine lv_iload hx hb dL_law_949 (lv_at hl 1 rfl) ?_
  refine lv_if_ne (tgt := 986) hx hb dL_law_951 (by decide) (fun _ => ?_) (fun c9 => absurd c9 (by decide))
  refine lv_goto (tgt := 1177) hx hb dL_law_986 (by decide) ?_
  exact kk9 x kk tt f3 _ _ ls (LwI.of (x := x) (kk := kk) (tt := tt) hR ⟨_, _, _, _, _, _, _, _, _, _, _, _, _, _, _, _, _, _, hX2, hMk, hMb, hMw, hMt, hMp⟩ ⟨_, ho⟩ ⟨_, hd⟩ hG htt hTT) (Nat.le_add_right _ _) hw (lv_sub hl [2, 3, 4, 5, 6, 7] rfl)

set_option maxHeartbeats 4000000 in
set_option maxRecDepth 100000 in
theorem k_stress_2 {p : Program} {l : Launch} {e : Env} {s : State} {m : MethodId} {below : List Frame} {meth : Method} {c : Code} {G : va_G} {dA : Nat → ClassId} {b Ls si : Nat} {xs : Nat → Int32} {sa ad : Nat → Nat} {L : List Nat} {nl nb : Nat} {q qk : Nat → Option Nat} {x : sR} {kk : Nat → UInt64 × UInt64} {tt : sT} {f : Nat → va_E} {H : Heap} {locs : List Loc} {ls : Array Slot} {cells slots : Nat} (j : Nat) (hLC : LC p l s m c meth b Ls xs G dA sa ad L nl nb q qk) (hsi : si + 5 ≤ Ls) (hc1 : cells + 1 ≤ room_1.cells) (hs1 : slots + 6 ≤ room_1.slots) (hLI : LwI ad dA nl nb q qk x kk tt f) (hhr : x.2.2.2.2.2 < 2 ^ 29) (hw : ww G dA (fun z : Nat => s.heap.size ≤ z) s L f H locs) (hl : lv_has ls 10 [(0, .ref b), (1, .ref (ad 0)), (2, .ref (ad 16)), (3, .ref (ad 32)), (4, .ref (ad 33)), (5, .int (nI si))]) (hj : j < nb) (hj1 : xs (si + 1) = nI j) (hbad : xs (si + 2) < 0 ∨ nI (nl + 1) ≤ xs (si + 2))
    (kk9 : ∀ (x2 : sR) (kk2 : Nat → UInt64 × UInt64) (tt2 : sT) (f2 : Nat → va_E) (H : Heap) (locs : List Loc) (ls : Array Slot), LwI ad dA nl nb q qk x2 kk2 tt2 f2 → x2.2.2.2.2.2 ≤ x.2.2.2.2.2 + 100 → ww G dA (fun z : Nat => s.heap.size ≤ z) s L f2 H locs → lv_has ls 10 [(0, .ref b), (1, .ref (ad 0)), (2, .ref (ad 16)), (3, .ref (ad 32)), (4, .ref (ad 33)), (5, .int (nI si))] → W p l e room_1 s m #[Value.ref b] below meth c H locs (cells + 1) (slots + 6) (lw_Z below #[Value.ref b] s) (F0 m 1177 ls [])) : W p l e room_1 s m #[Value.ref b] below meth c H locs cells slots (lw_Z below #[Value.ref b] s) (F0 m 900 ls []) := by
  obtain ⟨hx, hb, hml, hown, hts, hXs, hbl, hlt, hE, hC, hLs, hret, hlocks⟩ := hLC
  have hA : ∀ z : Nat, s.heap.size ≤ z → (fun z : Nat => s.heap.size ≤ z) z := fun _ h => h
  have hbA : ¬ (fun z : Nat => s.heap.size ≤ z) b := Nat.not_le.mpr hbl
  obtain ⟨hR, ⟨thr, hM⟩, ⟨o, ho⟩, ⟨od, hd⟩, hG, htt, hTT⟩ := hLI
  obtain ⟨pa, bad, num, RA, RB, TH, DE, KI, WE, NX, LI, LM, KE, TX, BW, TI, KV, DM, hX, hMk, hMb, hMw, hMt, hMp⟩ := hM
  refine lv_aload_n hx hb dL_law_900 rfl (lv_at hl 1 rfl) ?_
  refine lv_aload_n hx hb dL_law_901 rfl (lv_at hl 0 rfl) ?_
  refine lv_iload hx hb dL_law_902 (lv_at hl 5 rfl) ?_
  refine lv_iconst (v := 1) hx hb dL_law_904 (by decide) ?_
  refine lv_iadd hx hb dL_law_905 ?_
  rw [show nI si + 1 = nI (si + 1) from nI_add si 1]
  refine va_sld hx hb hXs hbl hbA hw.2.2.2 (vp_in_nI (show si + 1 < Ls by omega) (by omega)) dL_law_906 ?_
  rw [nI_clamp (show si + 1 < 2 ^ 31 by omega)]
  rw [hj1]
  refine lv_aload_n hx hb dL_law_907 rfl (lv_at hl 0 rfl) ?_
  refine lv_iload hx hb dL_law_908 (lv_at hl 5 rfl) ?_
  refine lv_iconst (v := 2) hx hb dL_law_910 (by decide) ?_
  refine lv_iadd hx hb dL_law_911 ?_
  rw [show nI si + 2 = nI (si + 2) from nI_add si 2]
  refine va_sld hx hb hXs hbl hbA hw.2.2.2 (vp_in_nI (show si + 2 < Ls by omega) (by omega)) dL_law_912 ?_
  rw [nI_clamp (show si + 2 < 2 ^ 31 by omega)]
  refine lv_aload hx hb dL_law_913 (lv_at hl 4 rfl) ?_
  refine kH (As := [.ref (ad 0), .int (nI j), .int (xs (si + 2)), .ref (ad 33)]) (rest := []) ⟨hx, hb, hml, hown, hts⟩ (h_x2_X6_stress l hlt G dA sa L f ad (nl + 1) nb q qk x.1 x.2.1 x.2.2.1 x.2.2.2.1 kk tt x.2.2.2.2.1 x.2.2.2.2.2 j (xs (si + 2)) hC hR hj hbad od hd) (vx_cwSW 4 hts gL_law_L_stress rfl rfl rfl (by decide +kernel) ⟨Nat.le_of_ble_eq_true rfl, Nat.le_of_ble_eq_true rfl⟩) hw hE hA rfl hl.1 rfl (Nat.le_of_ble_eq_true rfl) dL_law_915 ⟨hc1, hs1⟩ (fun r2 f1 H locs hp hw => ?_)
  obtain ⟨e1, e2⟩ := hp
  rw [e2] at hw
  rw [e1]
  refine lv_istore (lv' := [(6, .int 1), (0, .ref b), (1, .ref (ad 0)), (2, .ref (ad 16)), (3, .ref (ad 32)), (4, .ref (ad 33)), (5, .int (nI si))]) hx hb dL_law_918 hl (by decide) rfl (fun ls hl => ?_)
  refine lv_aload_n hx hb dL_law_920 rfl (lv_at hl 3 rfl) ?_
  refine lv_aload_n hx hb dL_law_921 rfl (lv_at hl 1 rfl) ?_
  refine lv_iload hx hb dL_law_922 (lv_at hl 6 rfl) ?_
  refine lv_iconst (v := 1) hx hb dL_law_924 (by decide) ?_
  refine lv_iadd hx hb dL_law_925 ?_
  rw [show nI si + 1 = nI (si + 1) from nI_add si 1]
  refine va_sld hx hb hXs hbl hbA hw.2.2.2 (vp_in_nI (show si + 1 < Ls by omega) (by omega)) dL_law_926 ?_
  rw [nI_clamp (show si + 1 < 2 ^ 31 by omega)]
  rw [hj1]
  refine lv_aload_n hx hb dL_law_927 rfl (lv_at hl 1 rfl) ?_
  refine lv_iload hx hb dL_law_928 (lv_at hl 6 rfl) ?_
  refine lv_iconst (v := 2) hx hb dL_law_930 (by decide) ?_
  refine lv_iadd hx hb dL_law_931 ?_
  rw [show nI si + 2 = nI (si + 2) from nI_add si 2]
  refine va_sld hx hb hXs hbl hbA hw.2.2.2 (vp_in_nI (show si + 2 < Ls by omega) (by omega)) dL_law_932 ?_
  rw [nI_clamp (show si + 2 < 2 ^ 31 by omega)]
  refine kV_D (C := RX7) (T := TX7) (N := 31) (As := [.int (nI j), .int (xs (si + 2))]) (rest := []) ⟨hx, hb, hml, hown, hts⟩ (t1_X7_stress l G dA L f ad (nl + 1) nb q qk ((x.1).1) ((x.1).2.1) ((x.1).2.2.1) ((x.1).2.2.2) ((x.2.1).1) ((x.2.1).2) x.2.2.2.2.2 tt.1 ((x.2.2.2.2.1).1) ((x.2.2.2.2.1).2.1) thr pa bad num RA RB TH DE KI WE NX LI LM KE TX BW TI KV DM f (nI j) (xs (si + 2)) hC hX (noL_t2 hbad)) (cwV 2 hts gL_law_X7_stress rfl rfl rfl (by decide +kernel) ⟨Nat.le_of_ble_eq_true rfl, Nat.le_of_ble_eq_true rfl⟩) hw hA (hC.m (by decide)) hX.o rfl rfl hl.1 rfl (Nat.le_of_ble_eq_true rfl) dL_law_933 ⟨hc1, hs1⟩ (fun r4 f3 H locs hp hw => ?_)
  have hX2 : MX ad dA (nl + 1) nb ((x.1).1) ((x.1).2.1) ((x.1).2.2.1) ((x.1).2.2.2) ((x.2.1).1) ((x.2.1).2) x.2.2.2.2.2 tt.1 ((x.2.2.2.2.1).1) ((x.2.2.2.2.1).2.1) 1 pa bad num RA RB TH DE KI WE NX LI LM KE TX BW TI KV DM f f3 := hp
  refine lv_dstore (lv' := [(7, .double r4), (6, .int 1), (0, .ref b), (1, .ref (ad 0)), (2, .ref (ad 16)), (3, .ref (ad 32)), (4, .ref (ad 33)), (5, .int (nI si))]) hx hb dL_law_936 hl (by decide) rfl (fun ls hl => ?_)
  refine lv_aload_n hx hb dL_law_938 rfl (lv_at hl 4 rfl) ?_
  refine kV_I (C := RX7) (T := TX7) (N := 31) (As := []) (rest := []) ⟨hx, hb, hml, hown, hts⟩ (c_X7_thrown l G dA L f3 ad (nl + 1) nb q qk ((x.1).1) ((x.1).2.1) ((x.1).2.2.1) ((x.1).2.2.2) ((x.2.1).1) ((x.2.1).2) x.2.2.2.2.2 tt.1 ((x.2.2.2.2.1).1) ((x.2.2.2.2.1).2.1) 1 pa bad num RA RB TH DE KI WE NX LI LM KE TX BW TI KV DM f hC hX2) (cwV 0 hts gL_law_X7_thrown rfl rfl rfl (by decide +kernel) ⟨Nat.le_of_ble_eq_true rfl, Nat.le_of_ble_eq_true rfl⟩) hw hA (hC.m (by decide)) hX2.o rfl rfl hl.1 rfl (Nat.le_of_ble_eq_true rfl) dL_law_939 ⟨hc1, hs1⟩ (fun r5 f6 H locs hp hw => ?_)
  obtain ⟨e1, e2⟩ := hp
  rw [e2] at hw
  rw [e1]
  refine lv_iload hx hb dL_law_942 (lv_at hl 1 rfl) ?_
  refine lv_icmp_eq (tgt := 949) hx hb dL_law_944 (by decide) (fun _ => ?_) (fun c9 => absurd rfl c9)
  refine lv_iload hx hb dL_law_949 (lv_at hl 1 rfl) ?_
  refine lv_if_ne (tgt := 986) hx hb dL_law_951 (by decide) (fun _ => ?_) (fun c9 => absurd c9 (by decide))
  refine lv_goto (tgt := 1177) hx hb dL_law_986 (by decide) ?_
  exact kk9 x kk tt f3 _ _ ls (LwI.of (x := x) (kk := kk) (tt := tt) hR ⟨_, _, _, _, _, _, _, _, _, _, _, _, _, _, _, _, _, _, hX2, hMk, hMb, hMw, hMt, hMp⟩ ⟨_, ho⟩ ⟨_, hd⟩ hG htt hTT) (Nat.le_add_right _ _) hw (lv_sub hl [2, 3, 4, 5, 6, 7] rfl)

set_option maxHeartbeats 4000000 in
set_option maxRecDepth 100000 in
theorem k_stress_3 {p : Program} {l : Launch} {e : Env} {s : State} {m : MethodId} {below : List Frame} {meth : Method} {c : Code} {G : va_G} {dA : Nat → ClassId} {b Ls si : Nat} {xs : Nat → Int32} {sa ad : Nat → Nat} {L : List Nat} {nl nb : Nat} {q qk : Nat → Option Nat} {x : sR} {kk : Nat → UInt64 × UInt64} {tt : sT} {f : Nat → va_E} {H : Heap} {locs : List Loc} {ls : Array Slot} {cells slots : Nat} (j k : Nat) (hLC : LC p l s m c meth b Ls xs G dA sa ad L nl nb q qk) (hsi : si + 5 ≤ Ls) (hc1 : cells + 1 ≤ room_1.cells) (hs1 : slots + 6 ≤ room_1.slots) (hLI : LwI ad dA nl nb q qk x kk tt f) (hhr : x.2.2.2.2.2 < 2 ^ 29) (hw : ww G dA (fun z : Nat => s.heap.size ≤ z) s L f H locs) (hl : lv_has ls 10 [(0, .ref b), (1, .ref (ad 0)), (2, .ref (ad 16)), (3, .ref (ad 32)), (4, .ref (ad 33)), (5, .int (nI si))]) (hj : j < nb) (hj1 : xs (si + 1) = nI j) (hi : k < (nl + 1)) (hi1 : xs (si + 2) = nI k) (hbad : (x.2.2.1 j).1 = 0)
    (kk9 : ∀ (x2 : sR) (kk2 : Nat → UInt64 × UInt64) (tt2 : sT) (f2 : Nat → va_E) (H : Heap) (locs : List Loc) (ls : Array Slot), LwI ad dA nl nb q qk x2 kk2 tt2 f2 → x2.2.2.2.2.2 ≤ x.2.2.2.2.2 + 100 → ww G dA (fun z : Nat => s.heap.size ≤ z) s L f2 H locs → lv_has ls 10 [(0, .ref b), (1, .ref (ad 0)), (2, .ref (ad 16)), (3, .ref (ad 32)), (4, .ref (ad 33)), (5, .int (nI si))] → W p l e room_1 s m #[Value.ref b] below meth c H locs (cells + 1) (slots + 6) (lw_Z below #[Value.ref b] s) (F0 m 1177 ls [])) : W p l e room_1 s m #[Value.ref b] below meth c H locs cells slots (lw_Z below #[Value.ref b] s) (F0 m 900 ls []) := by
  obtain ⟨hx, hb, hml, hown, hts, hXs, hbl, hlt, hE, hC, hLs, hret, hlocks⟩ := hLC
  have hA : ∀ z : Nat, s.heap.size ≤ z → (fun z : Nat => s.heap.size ≤ z) z := fun _ h => h
  have hbA : ¬ (fun z : Nat => s.heap.size ≤ z) b := Nat.not_le.mpr hbl
  obtain ⟨hR, ⟨thr, hM⟩, ⟨o, ho⟩, ⟨od, hd⟩, hG, htt, hTT⟩ := hLI
  obtain ⟨pa, bad, num, RA, RB, TH, DE, KI, WE, NX, LI, LM, KE, TX, BW, TI, KV, DM, hX, hMk, hMb, hMw, hMt, hMp⟩ := hM
  refine lv_aload_n hx hb dL_law_900 rfl (lv_at hl 1 rfl) ?_
  refine lv_aload_n hx hb dL_law_901 rfl (lv_at hl 0 rfl) ?_
  refine lv_iload hx hb dL_law_902 (lv_at hl 5 rfl) ?_
  refine lv_iconst (v := 1) hx hb dL_law_904 (by decide) ?_
  refine lv_iadd hx hb dL_law_905 ?_
  rw [show nI si + 1 = nI (si + 1) from nI_add si 1]
  refine va_sld hx hb hXs hbl hbA hw.2.2.2 (vp_in_nI (show si + 1 < Ls by omega) (by omega)) dL_law_906 ?_
  rw [nI_clamp (show si + 1 < 2 ^ 31 by omega)]
  rw [hj1]
  refine lv_aload_n hx hb dL_law_907 rfl (lv_at hl 0 rfl) ?_
  refine lv_iload hx hb dL_law_908 (lv_at hl 5 rfl) ?_
  refine lv_iconst (v := 2) hx hb dL_law_910 (by decide) ?_
  refine lv_iadd hx hb dL_law_911 ?_
  rw [show nI si + 2 = nI (si + 2) from nI_add si 2]
  refine va_sld hx hb hXs hbl hbA hw.2.2.2 (vp_in_nI (show si + 2 < Ls by omega) (by omega)) dL_law_912 ?_
  rw [nI_clamp (show si + 2 < 2 ^ 31 by omega)]
  rw [hi1]
  refine lv_aload hx hb dL_law_913 (lv_at hl 4 rfl) ?_
  refine kH (As := [.ref (ad 0), .int (nI j), .int (nI k), .ref (ad 33)]) (rest := []) ⟨hx, hb, hml, hown, hts⟩ (h_x3_X6_stress l hlt G dA sa L f ad (nl + 1) nb q qk x.1 x.2.1 x.2.2.1 x.2.2.2.1 kk tt x.2.2.2.2.1 x.2.2.2.2.2 j k hC hR hj hi hbad od hd) (vx_cwSW 4 hts gL_law_L_stress rfl rfl rfl (by decide +kernel) ⟨Nat.le_of_ble_eq_true rfl, Nat.le_of_ble_eq_true rfl⟩) hw hE hA rfl hl.1 rfl (Nat.le_of_ble_eq_true rfl) dL_law_915 ⟨hc1, hs1⟩ (fun r2 f1 H locs hp hw => ?_)
  obtain ⟨e1, e2⟩ := hp
  rw [e2] at hw
  rw [e1]
  refine lv_istore (lv' := [(6, .int 2), (0, .ref b), (1, .ref (ad 0)), (2, .ref (ad 16)), (3, .ref (ad 32)), (4, .ref (ad 33)), (5, .int (nI si))]) hx hb dL_law_918 hl (by decide) rfl (fun ls hl => ?_)
  refine lv_aload_n hx hb dL_law_920 rfl (lv_at hl 3 rfl) ?_
  refine lv_aload_n hx hb dL_law_921 rfl (lv_at hl 1 rfl) ?_
  refine lv_iload hx hb dL_law_922 (lv_at hl 6 rfl) ?_
  refine lv_iconst (v := 1) hx hb dL_law_924 (by decide) ?_
  refine lv_iadd hx hb dL_law_925 ?_
  rw [show nI si + 1 = nI (si + 1) from nI_add si 1]
  refine va_sld hx hb hXs hbl hbA hw.2.2.2 (vp_in_nI (show si + 1 < Ls by omega) (by omega)) dL_law_926 ?_
  rw [nI_clamp (show si + 1 < 2 ^ 31 by omega)]
  rw [hj1]
  refine lv_aload_n hx hb dL_law_927 rfl (lv_at hl 1 rfl) ?_
  refine lv_iload hx hb dL_law_928 (lv_at hl 6 rfl) ?_
  refine lv_iconst (v := 2) hx hb dL_law_930 (by decide) ?_
  refine lv_iadd hx hb dL_law_931 ?_
  rw [show nI si + 2 = nI (si + 2) from nI_add si 2]
  refine va_sld hx hb hXs hbl hbA hw.2.2.2 (vp_in_nI (show si + 2 < Ls by omega) (by omega)) dL_law_932 ?_
  rw [nI_clamp (show si + 2 < 2 ^ 31 by omega)]
  rw [hi1]
  refine kV_D (C := RX7) (T := TX7) (N := 31) (As := [.int (nI j), .int (nI k)]) (rest := []) ⟨hx, hb, hml, hown, hts⟩ (t2_X7_stress l G dA L f ad (nl + 1) nb q qk ((x.1).1) ((x.1).2.1) ((x.1).2.2.1) ((x.1).2.2.2) ((x.2.1).1) ((x.2.1).2) x.2.2.2.2.2 tt.1 ((x.2.2.2.2.1).1) ((x.2.2.2.2.1).2.1) thr pa bad num RA RB TH DE KI WE NX LI LM KE TX BW TI KV DM f j k hC hX hj hi ((hMb j hj).1.trans hbad)) (cwV 2 hts gL_law_X7_stress rfl rfl rfl (by decide +kernel) ⟨Nat.le_of_ble_eq_true rfl, Nat.le_of_ble_eq_true rfl⟩) hw hA (hC.m (by decide)) hX.o rfl rfl hl.1 rfl (Nat.le_of_ble_eq_true rfl) dL_law_933 ⟨hc1, hs1⟩ (fun r4 f3 H locs hp hw => ?_)
  have hX2 : MX ad dA (nl + 1) nb ((x.1).1) ((x.1).2.1) ((x.1).2.2.1) ((x.1).2.2.2) ((x.2.1).1) ((x.2.1).2) x.2.2.2.2.2 tt.1 ((x.2.2.2.2.1).1) ((x.2.2.2.2.1).2.1) 2 pa bad num RA RB TH DE KI WE NX LI LM KE TX BW TI KV DM f f3 := hp
  refine lv_dstore (lv' := [(7, .double r4), (6, .int 2), (0, .ref b), (1, .ref (ad 0)), (2, .ref (ad 16)), (3, .ref (ad 32)), (4, .ref (ad 33)), (5, .int (nI si))]) hx hb dL_law_936 hl (by decide) rfl (fun ls hl => ?_)
  refine lv_aload_n hx hb dL_law_938 rfl (lv_at hl 4 rfl) ?_
  refine kV_I (C := RX7) (T := TX7) (N := 31) (As := []) (rest := []) ⟨hx, hb, hml, hown, hts⟩ (c_X7_thrown l G dA L f3 ad (nl + 1) nb q qk ((x.1).1) ((x.1).2.1) ((x.1).2.2.1) ((x.1).2.2.2) ((x.2.1).1) ((x.2.1).2) x.2.2.2.2.2 tt.1 ((x.2.2.2.2.1).1) ((x.2.2.2.2.1).2.1) 2 pa bad num RA RB TH DE KI WE NX LI LM KE TX BW TI KV DM f hC hX2) (cwV 0 hts gL_law_X7_thrown rfl rfl rfl (by decide +kernel) ⟨Nat.le_of_ble_eq_true rfl, Nat.le_of_ble_eq_true rfl⟩) hw hA (hC.m (by decide)) hX2.o rfl rfl hl.1 rfl (Nat.le_of_ble_eq_true rfl) dL_law_939 ⟨hc1, hs1⟩ (fun r5 f6 H locs hp hw => ?_)
  obtain ⟨e1, e2⟩ := hp
  rw [e2] at hw
  rw [e1]
  refine lv_iload hx hb dL_law_942 (lv_at hl 1 rfl) ?_
  refine lv_icmp_eq (tgt := 949) hx hb dL_law_944 (by decide) (fun _ => ?_) (fun c9 => absurd rfl c9)
  refine lv_iload hx hb dL_law_949 (lv_at hl 1 rfl) ?_
  refine lv_if_ne (tgt := 986) hx hb dL_law_951 (by decide) (fun _ => ?_) (fun c9 => absurd c9 (by decide))
  refine lv_goto (tgt := 1177) hx hb dL_law_986 (by decide) ?_
  exact kk9 x kk tt f3 _ _ ls (LwI.of (x := x) (kk := kk) (tt := tt) hR ⟨_, _, _, _, _, _, _, _, _, _, _, _, _, _, _, _, _, _, hX2, hMk, hMb, hMw, hMt, hMp⟩ ⟨_, ho⟩ ⟨_, hd⟩ hG htt hTT) (Nat.le_add_right _ _) hw (lv_sub hl [2, 3, 4, 5, 6, 7] rfl)

set_option maxHeartbeats 4000000 in
set_option maxRecDepth 100000 in
theorem k_stress_0 {p : Program} {l : Launch} {e : Env} {s : State} {m : MethodId} {below : List Frame} {meth : Method} {c : Code} {G : va_G} {dA : Nat → ClassId} {b Ls si : Nat} {xs : Nat → Int32} {sa ad : Nat → Nat} {L : List Nat} {nl nb : Nat} {q qk : Nat → Option Nat} {x : sR} {kk : Nat → UInt64 × UInt64} {tt : sT} {f : Nat → va_E} {H : Heap} {locs : List Loc} {ls : Array Slot} {cells slots : Nat} (j k : Nat) (hLC : LC p l s m c meth b Ls xs G dA sa ad L nl nb q qk) (hsi : si + 5 ≤ Ls) (hc1 : cells + 1 ≤ room_1.cells) (hs1 : slots + 6 ≤ room_1.slots) (hLI : LwI ad dA nl nb q qk x kk tt f) (hhr : x.2.2.2.2.2 < 2 ^ 29) (hw : ww G dA (fun z : Nat => s.heap.size ≤ z) s L f H locs) (hl : lv_has ls 10 [(0, .ref b), (1, .ref (ad 0)), (2, .ref (ad 16)), (3, .ref (ad 32)), (4, .ref (ad 33)), (5, .int (nI si))]) (hj : j < nb) (hj1 : xs (si + 1) = nI j) (hi : k < (nl + 1)) (hi1 : xs (si + 2) = nI k) (hth : ¬ (x.2.2.1 j).1 = 0)
    (kk9 : ∀ (x2 : sR) (kk2 : Nat → UInt64 × UInt64) (tt2 : sT) (f2 : Nat → va_E) (H : Heap) (locs : List Loc) (ls : Array Slot), LwI ad dA nl nb q qk x2 kk2 tt2 f2 → x2.2.2.2.2.2 ≤ x.2.2.2.2.2 + 100 → ww G dA (fun z : Nat => s.heap.size ≤ z) s L f2 H locs → lv_has ls 10 [(0, .ref b), (1, .ref (ad 0)), (2, .ref (ad 16)), (3, .ref (ad 32)), (4, .ref (ad 33)), (5, .int (nI si))] → W p l e room_1 s m #[Value.ref b] below meth c H locs (cells + 1) (slots + 6) (lw_Z below #[Value.ref b] s) (F0 m 1177 ls [])) : W p l e room_1 s m #[Value.ref b] below meth c H locs cells slots (lw_Z below #[Value.ref b] s) (F0 m 900 ls []) := by
  obtain ⟨hx, hb, hml, hown, hts, hXs, hbl, hlt, hE, hC, hLs, hret, hlocks⟩ := hLC
  have hA : ∀ z : Nat, s.heap.size ≤ z → (fun z : Nat => s.heap.size ≤ z) z := fun _ h => h
  have hbA : ¬ (fun z : Nat => s.heap.size ≤ z) b := Nat.not_le.mpr hbl
  obtain ⟨hR, ⟨thr, hM⟩, ⟨o, ho⟩, ⟨od, hd⟩, hG, htt, hTT⟩ := hLI
  obtain ⟨pa, bad, num, RA, RB, TH, DE, KI, WE, NX, LI, LM, KE, TX, BW, TI, KV, DM, hX, hMk, hMb, hMw, hMt, hMp⟩ := hM
  have hK := KH_ok (hr := x.2.2.2.2.2) (by omega)
  have hgw := ((hG.2.2.1 j hj).2 hth).2
  have hg := hgw.np hK
  refine lv_aload_n hx hb dL_law_900 rfl (lv_at hl 1 rfl) ?_
  refine lv_aload_n hx hb dL_law_901 rfl (lv_at hl 0 rfl) ?_
  refine lv_iload hx hb dL_law_902 (lv_at hl 5 rfl) ?_
  refine lv_iconst (v := 1) hx hb dL_law_904 (by decide) ?_
  refine lv_iadd hx hb dL_law_905 ?_
  rw [show nI si + 1 = nI (si + 1) from nI_add si 1]
  refine va_sld hx hb hXs hbl hbA hw.2.2.2 (vp_in_nI (show si + 1 < Ls by omega) (by omega)) dL_law_906 ?_
  rw [nI_clamp (show si + 1 < 2 ^ 31 by omega)]
  rw [hj1]
  refine lv_aload_n hx hb dL_law_907 rfl (lv_at hl 0 rfl) ?_
  refine lv_iload hx hb dL_law_908 (lv_at hl 5 rfl) ?_
  refine lv_iconst (v := 2) hx hb dL_law_910 (by decide) ?_
  refine lv_iadd hx hb dL_law_911 ?_
  rw [show nI si + 2 = nI (si + 2) from nI_add si 2]
  refine va_sld hx hb hXs hbl hbA hw.2.2.2 (vp_in_nI (show si + 2 < Ls by omega) (by omega)) dL_law_912 ?_
  rw [nI_clamp (show si + 2 < 2 ^ 31 by omega)]
  rw [hi1]
  refine lv_aload hx hb dL_law_913 (lv_at hl 4 rfl) ?_
  refine kH (As := [.ref (ad 0), .int (nI j), .int (nI k), .ref (ad 33)]) (rest := []) ⟨hx, hb, hml, hown, hts⟩ (h_c_X6_stress l hlt G dA sa L f ad (nl + 1) nb q qk x.1 x.2.1 x.2.2.1 x.2.2.2.1 kk tt x.2.2.2.2.1 x.2.2.2.2.2 j k hC hR hj hi hth hg od hd) (vx_cwSW 4 hts gL_law_L_stress rfl rfl rfl (by decide +kernel) ⟨Nat.le_of_ble_eq_true rfl, Nat.le_of_ble_eq_true rfl⟩) hw hE hA rfl hl.1 rfl (Nat.le_of_ble_eq_true rfl) dL_law_915 ⟨hc1, hs1⟩ (fun r2 f1 H locs hp hw => ?_)
  obtain ⟨e1, hp⟩ := hp
  rw [e1]
  have ef : f1 = va_up f (ad 33) (aD (dA 1) 1 (vf_upd od 0 (sp_stress (x.2.2.2.1 j) (nl + 1) k))) := hp
  have hR1 : RC ad dA (nl + 1) nb q qk x.1 x.2.1 x.2.2.1 x.2.2.2.1 kk tt x.2.2.2.2.1 x.2.2.2.2.2 f1 f1 := hR.mv (fun i hi h => by rw [ef]; exact va_up_ne _ _ (hC.ne hi (by omega) (by omega))) (fun _ _ _ => rfl)
  have hX3 : MX ad dA (nl + 1) nb ((x.1).1) ((x.1).2.1) ((x.1).2.2.1) ((x.1).2.2.2) ((x.2.1).1) ((x.2.1).2) x.2.2.2.2.2 tt.1 ((x.2.2.2.2.1).1) ((x.2.2.2.2.1).2.1) thr pa bad num RA RB TH DE KI WE NX LI LM KE TX BW TI KV DM f1 f1 := hX.mv (fun i h1 h2 => by rw [ef]; exact va_up_ne _ _ (hC.ne (by omega) (by omega) (by omega))) (fun _ _ _ => rfl)
  have hoth : f1 (ad 32) = aL (dA 4) 1 o := by rw [ef]; exact (va_up_ne _ _ (hC.ne (by omega) (by omega) (by decide))).trans ho
  have hown9 : f1 (ad 33) = aD (dA 1) 1 (vf_upd od 0 (sp_stress (x.2.2.2.1 j) (nl + 1) k)) := by rw [ef]; exact va_up_self _ _ _
  refine lv_istore (lv' := [(6, .int 0), (0, .ref b), (1, .ref (ad 0)), (2, .ref (ad 16)), (3, .ref (ad 32)), (4, .ref (ad 33)), (5, .int (nI si))]) hx hb dL_law_918 hl (by decide) rfl (fun ls hl => ?_)
  refine lv_aload_n hx hb dL_law_920 rfl (lv_at hl 3 rfl) ?_
  refine lv_aload_n hx hb dL_law_921 rfl (lv_at hl 1 rfl) ?_
  refine lv_iload hx hb dL_law_922 (lv_at hl 6 rfl) ?_
  refine lv_iconst (v := 1) hx hb dL_law_924 (by decide) ?_
  refine lv_iadd hx hb dL_law_925 ?_
  rw [show nI si + 1 = nI (si + 1) from nI_add si 1]
  refine va_sld hx hb hXs hbl hbA hw.2.2.2 (vp_in_nI (show si + 1 < Ls by omega) (by omega)) dL_law_926 ?_
  rw [nI_clamp (show si + 1 < 2 ^ 31 by omega)]
  rw [hj1]
  refine lv_aload_n hx hb dL_law_927 rfl (lv_at hl 1 rfl) ?_
  refine lv_iload hx hb dL_law_928 (lv_at hl 6 rfl) ?_
  refine lv_iconst (v := 2) hx hb dL_law_930 (by decide) ?_
  refine lv_iadd hx hb dL_law_931 ?_
  rw [show nI si + 2 = nI (si + 2) from nI_add si 2]
  refine va_sld hx hb hXs hbl hbA hw.2.2.2 (vp_in_nI (show si + 2 < Ls by omega) (by omega)) dL_law_932 ?_
  rw [nI_clamp (show si + 2 < 2 ^ 31 by omega)]
  rw [hi1]
  refine kV_D (C := RX7) (T := TX7) (N := 31) (As := [.int (nI j), .int (nI k)]) (rest := []) ⟨hx, hb, hml, hown, hts⟩ (c_X7_stress l G dA L f1 ad (nl + 1) nb q qk ((x.1).1) ((x.1).2.1) ((x.1).2.2.1) ((x.1).2.2.2) ((x.2.1).1) ((x.2.1).2) x.2.2.2.2.2 tt.1 ((x.2.2.2.2.1).1) ((x.2.2.2.2.1).2.1) thr pa bad num RA RB TH DE KI WE NX LI LM KE TX BW TI KV DM f1 j k (x.2.2.2.1 j) hC hX3 hj hi (fun h => hth ((hMb j hj).1.symm.trans h)) (hMw j hj) hg) (cwV 2 hts gL_law_X7_stress rfl rfl rfl (by decide +kernel) ⟨Nat.le_of_ble_eq_true rfl, Nat.le_of_ble_eq_true rfl⟩) hw hA (hC.m (by decide)) hX3.o rfl rfl hl.1 rfl (Nat.le_of_ble_eq_true rfl) dL_law_933 ⟨hc1, hs1⟩ (fun r5 f4 H locs hp hw => ?_)
  obtain ⟨e1, hp⟩ := hp
  rw [e1]
  have hX2 : MX ad dA (nl + 1) nb ((x.1).1) ((x.1).2.1) ((x.1).2.2.1) ((x.1).2.2.2) ((x.2.1).1) ((x.2.1).2) x.2.2.2.2.2 tt.1 ((x.2.2.2.2.1).1) ((x.2.2.2.2.1).2.1) 0 pa bad num RA RB TH DE KI WE NX LI LM KE TX BW TI KV DM f1 f4 := hp
  refine lv_dstore (lv' := [(7, .double (sp_stress (x.2.2.2.1 j) (nl + 1) k)), (6, .int 0), (0, .ref b), (1, .ref (ad 0)), (2, .ref (ad 16)), (3, .ref (ad 32)), (4, .ref (ad 33)), (5, .int (nI si))]) hx hb dL_law_936 hl (by decide) rfl (fun ls hl => ?_)
  refine lv_aload_n hx hb dL_law_938 rfl (lv_at hl 4 rfl) ?_
  refine kV_I (C := RX7) (T := TX7) (N := 31) (As := []) (rest := []) ⟨hx, hb, hml, hown, hts⟩ (c_X7_thrown l G dA L f4 ad (nl + 1) nb q qk ((x.1).1) ((x.1).2.1) ((x.1).2.2.1) ((x.1).2.2.2) ((x.2.1).1) ((x.2.1).2) x.2.2.2.2.2 tt.1 ((x.2.2.2.2.1).1) ((x.2.2.2.2.1).2.1) 0 pa bad num RA RB TH DE KI WE NX LI LM KE TX BW TI KV DM f1 hC hX2) (cwV 0 hts gL_law_X7_thrown rfl rfl rfl (by decide +kernel) ⟨Nat.le_of_ble_eq_true rfl, Nat.le_of_ble_eq_true rfl⟩) hw hA (hC.m (by decide)) hX2.o rfl rfl hl.1 rfl (Nat.le_of_ble_eq_true rfl) dL_law_939 ⟨hc1, hs1⟩ (fun r6 f7 H locs hp hw => ?_)
  obtain ⟨e1, e2⟩ := hp
  rw [e2] at hw
  rw [e1]
  refine lv_iload hx hb dL_law_942 (lv_at hl 1 rfl) ?_
  refine lv_icmp_eq (tgt := 949) hx hb dL_law_944 (by decide) (fun _ => ?_) (fun c9 => absurd rfl c9)
  refine lv_iload hx hb dL_law_949 (lv_at hl 1 rfl) ?_
  refine lv_if_ne (tgt := 986) hx hb dL_law_951 (by decide) (fun c9 => absurd c9 (fun h7 => h7 rfl)) (fun _ => ?_)
  refine lv_aload hx hb dL_law_954 (lv_at hl 6 rfl) ?_
  refine lv_iconst (v := 0) hx hb dL_law_956 (by decide) ?_
  refine wld_d hx hb hw (hC.m (by decide)) ((hX2.fr (by omega) (by omega)).trans hown9) 0 (by decide) (by decide) nI_0.symm dL_law_957 ?_
  rw [show ((vf_upd od 0 (sp_stress (x.2.2.2.1 j) (nl + 1) k))) 0 = sp_stress (x.2.2.2.1 j) (nl + 1) k from vfD_s]
  refine lv_dload hx hb dL_law_958 (lv_at hl 0 rfl) ?_
  refine lv_dcmp hx hb dL_law_960 ?_
  refine lv_if_eq (tgt := 986) hx hb dL_law_961 (by decide) (fun c961 => ?_) (fun c961 => ?_)
  · refine lv_goto (tgt := 1177) hx hb dL_law_986 (by decide) ?_
    exact kk9 x kk tt f4 _ _ ls (LwI.of (x := x) (kk := kk) (tt := tt) hR1 ⟨_, _, _, _, _, _, _, _, _, _, _, _, _, _, _, _, _, _, hX2, hMk, hMb, hMw, hMt, hMp⟩ ⟨_, hoth⟩ ⟨_, hown9⟩ hG htt hTT) (Nat.le_add_right _ _) hw (lv_sub hl [2, 3, 4, 5, 6, 7] rfl)
  · refine lv_aload hx hb dL_law_964 (lv_at hl 6 rfl) ?_
    refine lv_iconst (v := 0) hx hb dL_law_966 (by decide) ?_
    refine wld_d hx hb hw (hC.m (by decide)) ((hX2.fr (by omega) (by omega)).trans hown9) 0 (by decide) (by decide) nI_0.symm dL_law_967 ?_
    rw [show ((vf_upd od 0 (sp_stress (x.2.2.2.1 j) (nl + 1) k))) 0 = sp_stress (x.2.2.2.1 j) (nl + 1) k from vfD_s]
    refine lv_aload hx hb dL_law_968 (lv_at hl 6 rfl) ?_
    refine lv_iconst (v := 0) hx hb dL_law_970 (by decide) ?_
    refine wld_d hx hb hw (hC.m (by decide)) ((hX2.fr (by omega) (by omega)).trans hown9) 0 (by decide) (by decide) nI_0.symm dL_law_971 ?_
    rw [show ((vf_upd od 0 (sp_stress (x.2.2.2.1 j) (nl + 1) k))) 0 = sp_stress (x.2.2.2.1 j) (nl + 1) k from vfD_s]
    refine lv_dcmp hx hb dL_law_972 ?_
    refine lv_if_eq (tgt := 984) hx hb dL_law_973 (by decide) (fun c9 => absurd c9 c961) (fun _ => ?_)
    refine lv_dload hx hb dL_law_976 (lv_at hl 0 rfl) ?_
    refine lv_dload hx hb dL_law_978 (lv_at hl 0 rfl) ?_
    refine lv_dcmp hx hb dL_law_980 ?_
    refine lv_if_ne (tgt := 986) hx hb dL_law_981 (by decide) (fun _ => ?_) (fun c9 => absurd c9 c961)
    refine lv_goto (tgt := 1177) hx hb dL_law_986 (by decide) ?_
    exact kk9 x kk tt f4 _ _ ls (LwI.of (x := x) (kk := kk) (tt := tt) hR1 ⟨_, _, _, _, _, _, _, _, _, _, _, _, _, _, _, _, _, _, hX2, hMk, hMb, hMw, hMt, hMp⟩ ⟨_, hoth⟩ ⟨_, hown9⟩ hG htt hTT) (Nat.le_add_right _ _) hw (lv_sub hl [2, 3, 4, 5, 6, 7] rfl)

set_option maxHeartbeats 4000000 in
set_option maxRecDepth 100000 in
theorem k_mean_1 {p : Program} {l : Launch} {e : Env} {s : State} {m : MethodId} {below : List Frame} {meth : Method} {c : Code} {G : va_G} {dA : Nat → ClassId} {b Ls si : Nat} {xs : Nat → Int32} {sa ad : Nat → Nat} {L : List Nat} {nl nb : Nat} {q qk : Nat → Option Nat} {x : sR} {kk : Nat → UInt64 × UInt64} {tt : sT} {f : Nat → va_E} {H : Heap} {locs : List Loc} {ls : Array Slot} {cells slots : Nat}  (hLC : LC p l s m c meth b Ls xs G dA sa ad L nl nb q qk) (hsi : si + 5 ≤ Ls) (hc1 : cells + 1 ≤ room_1.cells) (hs1 : slots + 6 ≤ room_1.slots) (hLI : LwI ad dA nl nb q qk x kk tt f) (hhr : x.2.2.2.2.2 < 2 ^ 29) (hw : ww G dA (fun z : Nat => s.heap.size ≤ z) s L f H locs) (hl : lv_has ls 10 [(0, .ref b), (1, .ref (ad 0)), (2, .ref (ad 16)), (3, .ref (ad 32)), (4, .ref (ad 33)), (5, .int (nI si))]) (hbad : xs (si + 1) < 0 ∨ nI nb ≤ xs (si + 1))
    (kk9 : ∀ (x2 : sR) (kk2 : Nat → UInt64 × UInt64) (tt2 : sT) (f2 : Nat → va_E) (H : Heap) (locs : List Loc) (ls : Array Slot), LwI ad dA nl nb q qk x2 kk2 tt2 f2 → x2.2.2.2.2.2 ≤ x.2.2.2.2.2 + 100 → ww G dA (fun z : Nat => s.heap.size ≤ z) s L f2 H locs → lv_has ls 10 [(0, .ref b), (1, .ref (ad 0)), (2, .ref (ad 16)), (3, .ref (ad 32)), (4, .ref (ad 33)), (5, .int (nI si))] → W p l e room_1 s m #[Value.ref b] below meth c H locs (cells + 1) (slots + 6) (lw_Z below #[Value.ref b] s) (F0 m 1177 ls [])) : W p l e room_1 s m #[Value.ref b] below meth c H locs cells slots (lw_Z below #[Value.ref b] s) (F0 m 823 ls []) := by
  obtain ⟨hx, hb, hml, hown, hts, hXs, hbl, hlt, hE, hC, hLs, hret, hlocks⟩ := hLC
  have hA : ∀ z : Nat, s.heap.size ≤ z → (fun z : Nat => s.heap.size ≤ z) z := fun _ h => h
  have hbA : ¬ (fun z : Nat => s.heap.size ≤ z) b := Nat.not_le.mpr hbl
  obtain ⟨hR, ⟨thr, hM⟩, ⟨o, ho⟩, ⟨od, hd⟩, hG, htt, hTT⟩ := hLI
  obtain ⟨pa, bad, num, RA, RB, TH, DE, KI, WE, NX, LI, LM, KE, TX, BW, TI, KV, DM, hX, hMk, hMb, hMw, hMt, hMp⟩ := hM
  refine lv_aload_n hx hb dL_law_823 rfl (lv_at hl 1 rfl) ?_
  refine lv_aload_n hx hb dL_law_824 rfl (lv_at hl 0 rfl) ?_
  refine lv_iload hx hb dL_law_825 (lv_at hl 5 rfl) ?_
  refine lv_iconst (v := 1) hx hb dL_law_827 (by decide) ?_
  refine lv_iadd hx hb dL_law_828 ?_
  rw [show nI si + 1 = nI (si + 1) from nI_add si 1]
  refine va_sld hx hb hXs hbl hbA hw.2.2.2 (vp_in_nI (show si + 1 < Ls by omega) (by omega)) dL_law_829 ?_
  rw [nI_clamp (show si + 1 < 2 ^ 31 by omega)]
  refine lv_aload hx hb dL_law_830 (lv_at hl 4 rfl) ?_
  refine kH (As := [.ref (ad 0), .int (xs (si + 1)), .ref (ad 33)]) (rest := []) ⟨hx, hb, hml, hown, hts⟩ (h_x1_X6_mean l hlt G dA sa L f ad (nl + 1) nb q qk x.1 x.2.1 x.2.2.1 x.2.2.2.1 kk tt x.2.2.2.2.1 x.2.2.2.2.2 (xs (si + 1)) hC hR hbad od hd) (vx_cwSW 3 hts gL_law_L_mean rfl rfl rfl (by decide +kernel) ⟨Nat.le_of_ble_eq_true rfl, Nat.le_of_ble_eq_true rfl⟩) hw hE hA rfl hl.1 rfl (Nat.le_of_ble_eq_true rfl) dL_law_832 ⟨hc1, hs1⟩ (fun r2 f1 H locs hp hw => ?_)
  obtain ⟨e1, e2⟩ := hp
  rw [e2] at hw
  rw [e1]
  refine lv_istore (lv' := [(6, .int 1), (0, .ref b), (1, .ref (ad 0)), (2, .ref (ad 16)), (3, .ref (ad 32)), (4, .ref (ad 33)), (5, .int (nI si))]) hx hb dL_law_835 hl (by decide) rfl (fun ls hl => ?_)
  refine lv_aload_n hx hb dL_law_837 rfl (lv_at hl 3 rfl) ?_
  refine lv_aload_n hx hb dL_law_838 rfl (lv_at hl 1 rfl) ?_
  refine lv_iload hx hb dL_law_839 (lv_at hl 6 rfl) ?_
  refine lv_iconst (v := 1) hx hb dL_law_841 (by decide) ?_
  refine lv_iadd hx hb dL_law_842 ?_
  rw [show nI si + 1 = nI (si + 1) from nI_add si 1]
  refine va_sld hx hb hXs hbl hbA hw.2.2.2 (vp_in_nI (show si + 1 < Ls by omega) (by omega)) dL_law_843 ?_
  rw [nI_clamp (show si + 1 < 2 ^ 31 by omega)]
  refine kV_D (C := RX7) (T := TX7) (N := 31) (As := [.int (xs (si + 1))]) (rest := []) ⟨hx, hb, hml, hown, hts⟩ (t1_X7_mean l G dA L f ad (nl + 1) nb q qk ((x.1).1) ((x.1).2.1) ((x.1).2.2.1) ((x.1).2.2.2) ((x.2.1).1) ((x.2.1).2) x.2.2.2.2.2 tt.1 ((x.2.2.2.2.1).1) ((x.2.2.2.2.1).2.1) thr pa bad num RA RB TH DE KI WE NX LI LM KE TX BW TI KV DM f (xs (si + 1)) hC hX (noB_t hbad)) (cwV 1 hts gL_law_X7_mean rfl rfl rfl (by decide +kernel) ⟨Nat.le_of_ble_eq_true rfl, Nat.le_of_ble_eq_true rfl⟩) hw hA (hC.m (by decide)) hX.o rfl rfl hl.1 rfl (Nat.le_of_ble_eq_true rfl) dL_law_844 ⟨hc1, hs1⟩ (fun r4 f3 H locs hp hw => ?_)
  have hX2 : MX ad dA (nl + 1) nb ((x.1).1) ((x.1).2.1) ((x.1).2.2.1) ((x.1).2.2.2) ((x.2.1).1) ((x.2.1).2) x.2.2.2.2.2 tt.1 ((x.2.2.2.2.1).1) ((x.2.2.2.2.1).2.1) 1 pa bad num RA RB TH DE KI WE NX LI LM KE TX BW TI KV DM f f3 := hp
  refine lv_dstore (lv' := [(7, .double r4), (6, .int 1), (0, .ref b), (1, .ref (ad 0)), (2, .ref (ad 16)), (3, .ref (ad 32)), (4, .ref (ad 33)), (5, .int (nI si))]) hx hb dL_law_847 hl (by decide) rfl (fun ls hl => ?_)
  refine lv_aload_n hx hb dL_law_849 rfl (lv_at hl 4 rfl) ?_
  refine kV_I (C := RX7) (T := TX7) (N := 31) (As := []) (rest := []) ⟨hx, hb, hml, hown, hts⟩ (c_X7_thrown l G dA L f3 ad (nl + 1) nb q qk ((x.1).1) ((x.1).2.1) ((x.1).2.2.1) ((x.1).2.2.2) ((x.2.1).1) ((x.2.1).2) x.2.2.2.2.2 tt.1 ((x.2.2.2.2.1).1) ((x.2.2.2.2.1).2.1) 1 pa bad num RA RB TH DE KI WE NX LI LM KE TX BW TI KV DM f hC hX2) (cwV 0 hts gL_law_X7_thrown rfl rfl rfl (by decide +kernel) ⟨Nat.le_of_ble_eq_true rfl, Nat.le_of_ble_eq_true rfl⟩) hw hA (hC.m (by decide)) hX2.o rfl rfl hl.1 rfl (Nat.le_of_ble_eq_true rfl) dL_law_850 ⟨hc1, hs1⟩ (fun r5 f6 H locs hp hw => ?_)
  obtain ⟨e1, e2⟩ := hp
  rw [e2] at hw
  rw [e1]
  refine lv_iload hx hb dL_law_853 (lv_at hl 1 rfl) ?_
  refine lv_icmp_eq (tgt := 860) hx hb dL_law_855 (by decide) (fun _ => ?_) (fun c9 => absurd rfl c9)
  refine lv_iload hx hb dL_law_860 (lv_at hl 1 rfl) ?_
  refine lv_if_ne (tgt := 897) hx hb dL_law_862 (by decide) (fun _ => ?_) (fun c9 => absurd c9 (by decide))
  refine lv_goto (tgt := 1177) hx hb dL_law_897 (by decide) ?_
  exact kk9 x kk tt f3 _ _ ls (LwI.of (x := x) (kk := kk) (tt := tt) hR ⟨_, _, _, _, _, _, _, _, _, _, _, _, _, _, _, _, _, _, hX2, hMk, hMb, hMw, hMt, hMp⟩ ⟨_, ho⟩ ⟨_, hd⟩ hG htt hTT) (Nat.le_add_right _ _) hw (lv_sub hl [2, 3, 4, 5, 6, 7] rfl)

set_option maxHeartbeats 4000000 in
set_option maxRecDepth 100000 in
theorem k_mean_2 {p : Program} {l : Launch} {e : Env} {s : State} {m : MethodId} {below : List Frame} {meth : Method} {c : Code} {G : va_G} {dA : Nat → ClassId} {b Ls si : Nat} {xs : Nat → Int32} {sa ad : Nat → Nat} {L : List Nat} {nl nb : Nat} {q qk : Nat → Option Nat} {x : sR} {kk : Nat → UInt64 × UInt64} {tt : sT} {f : Nat → va_E} {H : Heap} {locs : List Loc} {ls : Array Slot} {cells slots : Nat} (j : Nat) (hLC : LC p l s m c meth b Ls xs G dA sa ad L nl nb q qk) (hsi : si + 5 ≤ Ls) (hc1 : cells + 1 ≤ room_1.cells) (hs1 : slots + 6 ≤ room_1.slots) (hLI : LwI ad dA nl nb q qk x kk tt f) (hhr : x.2.2.2.2.2 < 2 ^ 29) (hw : ww G dA (fun z : Nat => s.heap.size ≤ z) s L f H locs) (hl : lv_has ls 10 [(0, .ref b), (1, .ref (ad 0)), (2, .ref (ad 16)), (3, .ref (ad 32)), (4, .ref (ad 33)), (5, .int (nI si))]) (hj : j < nb) (hj1 : xs (si + 1) = nI j) (hbad : (x.2.2.1 j).1 = 0)
    (kk9 : ∀ (x2 : sR) (kk2 : Nat → UInt64 × UInt64) (tt2 : sT) (f2 : Nat → va_E) (H : Heap) (locs : List Loc) (ls : Array Slot), LwI ad dA nl nb q qk x2 kk2 tt2 f2 → x2.2.2.2.2.2 ≤ x.2.2.2.2.2 + 100 → ww G dA (fun z : Nat => s.heap.size ≤ z) s L f2 H locs → lv_has ls 10 [(0, .ref b), (1, .ref (ad 0)), (2, .ref (ad 16)), (3, .ref (ad 32)), (4, .ref (ad 33)), (5, .int (nI si))] → W p l e room_1 s m #[Value.ref b] below meth c H locs (cells + 1) (slots + 6) (lw_Z below #[Value.ref b] s) (F0 m 1177 ls [])) : W p l e room_1 s m #[Value.ref b] below meth c H locs cells slots (lw_Z below #[Value.ref b] s) (F0 m 823 ls []) := by
  obtain ⟨hx, hb, hml, hown, hts, hXs, hbl, hlt, hE, hC, hLs, hret, hlocks⟩ := hLC
  have hA : ∀ z : Nat, s.heap.size ≤ z → (fun z : Nat => s.heap.size ≤ z) z := fun _ h => h
  have hbA : ¬ (fun z : Nat => s.heap.size ≤ z) b := Nat.not_le.mpr hbl
  obtain ⟨hR, ⟨thr, hM⟩, ⟨o, ho⟩, ⟨od, hd⟩, hG, htt, hTT⟩ := hLI
  obtain ⟨pa, bad, num, RA, RB, TH, DE, KI, WE, NX, LI, LM, KE, TX, BW, TI, KV, DM, hX, hMk, hMb, hMw, hMt, hMp⟩ := hM
  refine lv_aload_n hx hb dL_law_823 rfl (lv_at hl 1 rfl) ?_
  refine lv_aload_n hx hb dL_law_824 rfl (lv_at hl 0 rfl) ?_
  refine lv_iload hx hb dL_law_825 (lv_at hl 5 rfl) ?_
  refine lv_iconst (v := 1) hx hb dL_law_827 (by decide) ?_
  refine lv_iadd hx hb dL_law_828 ?_
  rw [show nI si + 1 = nI (si + 1) from nI_add si 1]
  refine va_sld hx hb hXs hbl hbA hw.2.2.2 (vp_in_nI (show si + 1 < Ls by omega) (by omega)) dL_law_829 ?_
  rw [nI_clamp (show si + 1 < 2 ^ 31 by omega)]
  rw [hj1]
  refine lv_aload hx hb dL_law_830 (lv_at hl 4 rfl) ?_
  refine kH (As := [.ref (ad 0), .int (nI j), .ref (ad 33)]) (rest := []) ⟨hx, hb, hml, hown, hts⟩ (h_x2_X6_mean l hlt G dA sa L f ad (nl + 1) nb q qk x.1 x.2.1 x.2.2.1 x.2.2.2.1 kk tt x.2.2.2.2.1 x.2.2.2.2.2 j hC hR hj hbad od hd) (vx_cwSW 3 hts gL_law_L_mean rfl rfl rfl (by decide +kernel) ⟨Nat.le_of_ble_eq_true rfl, Nat.le_of_ble_eq_true rfl⟩) hw hE hA rfl hl.1 rfl (Nat.le_of_ble_eq_true rfl) dL_law_832 ⟨hc1, hs1⟩ (fun r2 f1 H locs hp hw => ?_)
  obtain ⟨e1, e2⟩ := hp
  rw [e2] at hw
  rw [e1]
  refine lv_istore (lv' := [(6, .int 2), (0, .ref b), (1, .ref (ad 0)), (2, .ref (ad 16)), (3, .ref (ad 32)), (4, .ref (ad 33)), (5, .int (nI si))]) hx hb dL_law_835 hl (by decide) rfl (fun ls hl => ?_)
  refine lv_aload_n hx hb dL_law_837 rfl (lv_at hl 3 rfl) ?_
  refine lv_aload_n hx hb dL_law_838 rfl (lv_at hl 1 rfl) ?_
  refine lv_iload hx hb dL_law_839 (lv_at hl 6 rfl) ?_
  refine lv_iconst (v := 1) hx hb dL_law_841 (by decide) ?_
  refine lv_iadd hx hb dL_law_842 ?_
  rw [show nI si + 1 = nI (si + 1) from nI_add si 1]
  refine va_sld hx hb hXs hbl hbA hw.2.2.2 (vp_in_nI (show si + 1 < Ls by omega) (by omega)) dL_law_843 ?_
  rw [nI_clamp (show si + 1 < 2 ^ 31 by omega)]
  rw [hj1]
  refine kV_D (C := RX7) (T := TX7) (N := 31) (As := [.int (nI j)]) (rest := []) ⟨hx, hb, hml, hown, hts⟩ (t2_X7_mean l G dA L f ad (nl + 1) nb q qk ((x.1).1) ((x.1).2.1) ((x.1).2.2.1) ((x.1).2.2.2) ((x.2.1).1) ((x.2.1).2) x.2.2.2.2.2 tt.1 ((x.2.2.2.2.1).1) ((x.2.2.2.2.1).2.1) thr pa bad num RA RB TH DE KI WE NX LI LM KE TX BW TI KV DM f j hC hX hj ((hMb j hj).1.trans hbad)) (cwV 1 hts gL_law_X7_mean rfl rfl rfl (by decide +kernel) ⟨Nat.le_of_ble_eq_true rfl, Nat.le_of_ble_eq_true rfl⟩) hw hA (hC.m (by decide)) hX.o rfl rfl hl.1 rfl (Nat.le_of_ble_eq_true rfl) dL_law_844 ⟨hc1, hs1⟩ (fun r4 f3 H locs hp hw => ?_)
  have hX2 : MX ad dA (nl + 1) nb ((x.1).1) ((x.1).2.1) ((x.1).2.2.1) ((x.1).2.2.2) ((x.2.1).1) ((x.2.1).2) x.2.2.2.2.2 tt.1 ((x.2.2.2.2.1).1) ((x.2.2.2.2.1).2.1) 2 pa bad num RA RB TH DE KI WE NX LI LM KE TX BW TI KV DM f f3 := hp
  refine lv_dstore (lv' := [(7, .double r4), (6, .int 2), (0, .ref b), (1, .ref (ad 0)), (2, .ref (ad 16)), (3, .ref (ad 32)), (4, .ref (ad 33)), (5, .int (nI si))]) hx hb dL_law_847 hl (by decide) rfl (fun ls hl => ?_)
  refine lv_aload_n hx hb dL_law_849 rfl (lv_at hl 4 rfl) ?_
  refine kV_I (C := RX7) (T := TX7) (N := 31) (As := []) (rest := []) ⟨hx, hb, hml, hown, hts⟩ (c_X7_thrown l G dA L f3 ad (nl + 1) nb q qk ((x.1).1) ((x.1).2.1) ((x.1).2.2.1) ((x.1).2.2.2) ((x.2.1).1) ((x.2.1).2) x.2.2.2.2.2 tt.1 ((x.2.2.2.2.1).1) ((x.2.2.2.2.1).2.1) 2 pa bad num RA RB TH DE KI WE NX LI LM KE TX BW TI KV DM f hC hX2) (cwV 0 hts gL_law_X7_thrown rfl rfl rfl (by decide +kernel) ⟨Nat.le_of_ble_eq_true rfl, Nat.le_of_ble_eq_true rfl⟩) hw hA (hC.m (by decide)) hX2.o rfl rfl hl.1 rfl (Nat.le_of_ble_eq_true rfl) dL_law_850 ⟨hc1, hs1⟩ (fun r5 f6 H locs hp hw => ?_)
  obtain ⟨e1, e2⟩ := hp
  rw [e2] at hw
  rw [e1]
  refine lv_iload hx hb dL_law_853 (lv_at hl 1 rfl) ?_
  refine lv_icmp_eq (tgt := 860) hx hb dL_law_855 (by decide) (fun _ => ?_) (fun c9 => absurd rfl c9)
  refine lv_iload hx hb dL_law_860 (lv_at hl 1 rfl) ?_
  refine lv_if_ne (tgt := 897) hx hb dL_law_862 (by decide) (fun _ => ?_) (fun c9 => absurd c9 (by decide))
  refine lv_goto (tgt := 1177) hx hb dL_law_897 (by decide) ?_
  exact kk9 x kk tt f3 _ _ ls (LwI.of (x := x) (kk := kk) (tt := tt) hR ⟨_, _, _, _, _, _, _, _, _, _, _, _, _, _, _, _, _, _, hX2, hMk, hMb, hMw, hMt, hMp⟩ ⟨_, ho⟩ ⟨_, hd⟩ hG htt hTT) (Nat.le_add_right _ _) hw (lv_sub hl [2, 3, 4, 5, 6, 7] rfl)

set_option maxHeartbeats 4000000 in
set_option maxRecDepth 100000 in
theorem k_mean_0 {p : Program} {l : Launch} {e : Env} {s : State} {m : MethodId} {below : List Frame} {meth : Method} {c : Code} {G : va_G} {dA : Nat → ClassId} {b Ls si : Nat} {xs : Nat → Int32} {sa ad : Nat → Nat} {L : List Nat} {nl nb : Nat} {q qk : Nat → Option Nat} {x : sR} {kk : Nat → UInt64 × UInt64} {tt : sT} {f : Nat → va_E} {H : Heap} {locs : List Loc} {ls : Array Slot} {cells slots : Nat} (j : Nat) (hLC : LC p l s m c meth b Ls xs G dA sa ad L nl nb q qk) (hsi : si + 5 ≤ Ls) (hc1 : cells + 1 ≤ room_1.cells) (hs1 : slots + 6 ≤ room_1.slots) (hLI : LwI ad dA nl nb q qk x kk tt f) (hhr : x.2.2.2.2.2 < 2 ^ 29) (hw : ww G dA (fun z : Nat => s.heap.size ≤ z) s L f H locs) (hl : lv_has ls 10 [(0, .ref b), (1, .ref (ad 0)), (2, .ref (ad 16)), (3, .ref (ad 32)), (4, .ref (ad 33)), (5, .int (nI si))]) (hj : j < nb) (hj1 : xs (si + 1) = nI j) (hth : ¬ (x.2.2.1 j).1 = 0)
    (kk9 : ∀ (x2 : sR) (kk2 : Nat → UInt64 × UInt64) (tt2 : sT) (f2 : Nat → va_E) (H : Heap) (locs : List Loc) (ls : Array Slot), LwI ad dA nl nb q qk x2 kk2 tt2 f2 → x2.2.2.2.2.2 ≤ x.2.2.2.2.2 + 100 → ww G dA (fun z : Nat => s.heap.size ≤ z) s L f2 H locs → lv_has ls 10 [(0, .ref b), (1, .ref (ad 0)), (2, .ref (ad 16)), (3, .ref (ad 32)), (4, .ref (ad 33)), (5, .int (nI si))] → W p l e room_1 s m #[Value.ref b] below meth c H locs (cells + 1) (slots + 6) (lw_Z below #[Value.ref b] s) (F0 m 1177 ls [])) : W p l e room_1 s m #[Value.ref b] below meth c H locs cells slots (lw_Z below #[Value.ref b] s) (F0 m 823 ls []) := by
  obtain ⟨hx, hb, hml, hown, hts, hXs, hbl, hlt, hE, hC, hLs, hret, hlocks⟩ := hLC
  have hA : ∀ z : Nat, s.heap.size ≤ z → (fun z : Nat => s.heap.size ≤ z) z := fun _ h => h
  have hbA : ¬ (fun z : Nat => s.heap.size ≤ z) b := Nat.not_le.mpr hbl
  obtain ⟨hR, ⟨thr, hM⟩, ⟨o, ho⟩, ⟨od, hd⟩, hG, htt, hTT⟩ := hLI
  obtain ⟨pa, bad, num, RA, RB, TH, DE, KI, WE, NX, LI, LM, KE, TX, BW, TI, KV, DM, hX, hMk, hMb, hMw, hMt, hMp⟩ := hM
  have hK := KH_ok (hr := x.2.2.2.2.2) (by omega)
  have hgw := ((hG.2.2.1 j hj).2 hth).2
  have hg := hgw.np hK
  obtain ⟨hm1, hm2, -⟩ := b_mean (fun z hz => (hg z hz).ab) hC.2.2.1.2 hC.2.2.1.1
  refine lv_aload_n hx hb dL_law_823 rfl (lv_at hl 1 rfl) ?_
  refine lv_aload_n hx hb dL_law_824 rfl (lv_at hl 0 rfl) ?_
  refine lv_iload hx hb dL_law_825 (lv_at hl 5 rfl) ?_
  refine lv_iconst (v := 1) hx hb dL_law_827 (by decide) ?_
  refine lv_iadd hx hb dL_law_828 ?_
  rw [show nI si + 1 = nI (si + 1) from nI_add si 1]
  refine va_sld hx hb hXs hbl hbA hw.2.2.2 (vp_in_nI (show si + 1 < Ls by omega) (by omega)) dL_law_829 ?_
  rw [nI_clamp (show si + 1 < 2 ^ 31 by omega)]
  rw [hj1]
  refine lv_aload hx hb dL_law_830 (lv_at hl 4 rfl) ?_
  refine kH (As := [.ref (ad 0), .int (nI j), .ref (ad 33)]) (rest := []) ⟨hx, hb, hml, hown, hts⟩ (h_c_X6_mean l hlt G dA sa L f ad (nl + 1) nb q qk x.1 x.2.1 x.2.2.1 x.2.2.2.1 kk tt x.2.2.2.2.1 x.2.2.2.2.2 j hC hR hj hth hg od hd) (vx_cwSW 3 hts gL_law_L_mean rfl rfl rfl (by decide +kernel) ⟨Nat.le_of_ble_eq_true rfl, Nat.le_of_ble_eq_true rfl⟩) hw hE hA rfl hl.1 rfl (Nat.le_of_ble_eq_true rfl) dL_law_832 ⟨hc1, hs1⟩ (fun r2 f1 H locs hp hw => ?_)
  obtain ⟨e1, hp⟩ := hp
  rw [e1]
  have ef : f1 = va_up f (ad 33) (aD (dA 1) 1 (vf_upd od 0 (sp_mean (x.2.2.2.1 j) (nl + 1)))) := hp
  have hR1 : RC ad dA (nl + 1) nb q qk x.1 x.2.1 x.2.2.1 x.2.2.2.1 kk tt x.2.2.2.2.1 x.2.2.2.2.2 f1 f1 := hR.mv (fun i hi h => by rw [ef]; exact va_up_ne _ _ (hC.ne hi (by omega) (by omega))) (fun _ _ _ => rfl)
  have hX3 : MX ad dA (nl + 1) nb ((x.1).1) ((x.1).2.1) ((x.1).2.2.1) ((x.1).2.2.2) ((x.2.1).1) ((x.2.1).2) x.2.2.2.2.2 tt.1 ((x.2.2.2.2.1).1) ((x.2.2.2.2.1).2.1) thr pa bad num RA RB TH DE KI WE NX LI LM KE TX BW TI KV DM f1 f1 := hX.mv (fun i h1 h2 => by rw [ef]; exact va_up_ne _ _ (hC.ne (by omega) (by omega) (by omega))) (fun _ _ _ => rfl)
  have hoth : f1 (ad 32) = aL (dA 4) 1 o := by rw [ef]; exact (va_up_ne _ _ (hC.ne (by omega) (by omega) (by decide))).trans ho
  have hown9 : f1 (ad 33) = aD (dA 1) 1 (vf_upd od 0 (sp_mean (x.2.2.2.1 j) (nl + 1))) := by rw [ef]; exact va_up_self _ _ _
  refine lv_istore (lv' := [(6, .int 0), (0, .ref b), (1, .ref (ad 0)), (2, .ref (ad 16)), (3, .ref (ad 32)), (4, .ref (ad 33)), (5, .int (nI si))]) hx hb dL_law_835 hl (by decide) rfl (fun ls hl => ?_)
  refine lv_aload_n hx hb dL_law_837 rfl (lv_at hl 3 rfl) ?_
  refine lv_aload_n hx hb dL_law_838 rfl (lv_at hl 1 rfl) ?_
  refine lv_iload hx hb dL_law_839 (lv_at hl 6 rfl) ?_
  refine lv_iconst (v := 1) hx hb dL_law_841 (by decide) ?_
  refine lv_iadd hx hb dL_law_842 ?_
  rw [show nI si + 1 = nI (si + 1) from nI_add si 1]
  refine va_sld hx hb hXs hbl hbA hw.2.2.2 (vp_in_nI (show si + 1 < Ls by omega) (by omega)) dL_law_843 ?_
  rw [nI_clamp (show si + 1 < 2 ^ 31 by omega)]
  rw [hj1]
  refine kV_D (C := RX7) (T := TX7) (N := 31) (As := [.int (nI j)]) (rest := []) ⟨hx, hb, hml, hown, hts⟩ (c_X7_mean l G dA L f1 ad (nl + 1) nb q qk ((x.1).1) ((x.1).2.1) ((x.1).2.2.1) ((x.1).2.2.2) ((x.2.1).1) ((x.2.1).2) x.2.2.2.2.2 tt.1 ((x.2.2.2.2.1).1) ((x.2.2.2.2.1).2.1) thr pa bad num RA RB TH DE KI WE NX LI LM KE TX BW TI KV DM f1 j (x.2.2.2.1 j) hC hX3 hj (fun h => hth ((hMb j hj).1.symm.trans h)) (hMw j hj) (z_add (hgw 0 (by have := hC.2.2.1; omega)).1) hm1 hm2) (cwV 1 hts gL_law_X7_mean rfl rfl rfl (by decide +kernel) ⟨Nat.le_of_ble_eq_true rfl, Nat.le_of_ble_eq_true rfl⟩) hw hA (hC.m (by decide)) hX3.o rfl rfl hl.1 rfl (Nat.le_of_ble_eq_true rfl) dL_law_844 ⟨hc1, hs1⟩ (fun r5 f4 H locs hp hw => ?_)
  obtain ⟨e1, hp⟩ := hp
  rw [e1]
  have hX2 : MX ad dA (nl + 1) nb ((x.1).1) ((x.1).2.1) ((x.1).2.2.1) ((x.1).2.2.2) ((x.2.1).1) ((x.2.1).2) x.2.2.2.2.2 tt.1 ((x.2.2.2.2.1).1) ((x.2.2.2.2.1).2.1) 0 pa bad num RA RB TH DE KI WE NX LI LM KE TX BW TI KV DM f1 f4 := hp
  refine lv_dstore (lv' := [(7, .double (sp_mean (x.2.2.2.1 j) (nl + 1))), (6, .int 0), (0, .ref b), (1, .ref (ad 0)), (2, .ref (ad 16)), (3, .ref (ad 32)), (4, .ref (ad 33)), (5, .int (nI si))]) hx hb dL_law_847 hl (by decide) rfl (fun ls hl => ?_)
  refine lv_aload_n hx hb dL_law_849 rfl (lv_at hl 4 rfl) ?_
  refine kV_I (C := RX7) (T := TX7) (N := 31) (As := []) (rest := []) ⟨hx, hb, hml, hown, hts⟩ (c_X7_thrown l G dA L f4 ad (nl + 1) nb q qk ((x.1).1) ((x.1).2.1) ((x.1).2.2.1) ((x.1).2.2.2) ((x.2.1).1) ((x.2.1).2) x.2.2.2.2.2 tt.1 ((x.2.2.2.2.1).1) ((x.2.2.2.2.1).2.1) 0 pa bad num RA RB TH DE KI WE NX LI LM KE TX BW TI KV DM f1 hC hX2) (cwV 0 hts gL_law_X7_thrown rfl rfl rfl (by decide +kernel) ⟨Nat.le_of_ble_eq_true rfl, Nat.le_of_ble_eq_true rfl⟩) hw hA (hC.m (by decide)) hX2.o rfl rfl hl.1 rfl (Nat.le_of_ble_eq_true rfl) dL_law_850 ⟨hc1, hs1⟩ (fun r6 f7 H locs hp hw => ?_)
  obtain ⟨e1, e2⟩ := hp
  rw [e2] at hw
  rw [e1]
  refine lv_iload hx hb dL_law_853 (lv_at hl 1 rfl) ?_
  refine lv_icmp_eq (tgt := 860) hx hb dL_law_855 (by decide) (fun _ => ?_) (fun c9 => absurd rfl c9)
  refine lv_iload hx hb dL_law_860 (lv_at hl 1 rfl) ?_
  refine lv_if_ne (tgt := 897) hx hb dL_law_862 (by decide) (fun c9 => absurd c9 (fun h7 => h7 rfl)) (fun _ => ?_)
  refine lv_aload hx hb dL_law_865 (lv_at hl 6 rfl) ?_
  refine lv_iconst (v := 0) hx hb dL_law_867 (by decide) ?_
  refine wld_d hx hb hw (hC.m (by decide)) ((hX2.fr (by omega) (by omega)).trans hown9) 0 (by decide) (by decide) nI_0.symm dL_law_868 ?_
  rw [show ((vf_upd od 0 (sp_mean (x.2.2.2.1 j) (nl + 1)))) 0 = sp_mean (x.2.2.2.1 j) (nl + 1) from vfD_s]
  refine lv_dload hx hb dL_law_869 (lv_at hl 0 rfl) ?_
  refine lv_dcmp hx hb dL_law_871 ?_
  refine lv_if_eq (tgt := 897) hx hb dL_law_872 (by decide) (fun c872 => ?_) (fun c872 => ?_)
  · refine lv_goto (tgt := 1177) hx hb dL_law_897 (by decide) ?_
    exact kk9 x kk tt f4 _ _ ls (LwI.of (x := x) (kk := kk) (tt := tt) hR1 ⟨_, _, _, _, _, _, _, _, _, _, _, _, _, _, _, _, _, _, hX2, hMk, hMb, hMw, hMt, hMp⟩ ⟨_, hoth⟩ ⟨_, hown9⟩ hG htt hTT) (Nat.le_add_right _ _) hw (lv_sub hl [2, 3, 4, 5, 6, 7] rfl)
  · refine lv_aload hx hb dL_law_875 (lv_at hl 6 rfl) ?_
    refine lv_iconst (v := 0) hx hb dL_law_877 (by decide) ?_
    refine wld_d hx hb hw (hC.m (by decide)) ((hX2.fr (by omega) (by omega)).trans hown9) 0 (by decide) (by decide) nI_0.symm dL_law_878 ?_
    rw [show ((vf_upd od 0 (sp_mean (x.2.2.2.1 j) (nl + 1)))) 0 = sp_mean (x.2.2.2.1 j) (nl + 1) from vfD_s]
    refine lv_aload hx hb dL_law_879 (lv_at hl 6 rfl) ?_
    refine lv_iconst (v := 0) hx hb dL_law_881 (by decide) ?_
    refine wld_d hx hb hw (hC.m (by decide)) ((hX2.fr (by omega) (by omega)).trans hown9) 0 (by decide) (by decide) nI_0.symm dL_law_882 ?_
    rw [show ((vf_upd od 0 (sp_mean (x.2.2.2.1 j) (nl + 1)))) 0 = sp_mean (x.2.2.2.1 j) (nl + 1) from vfD_s]
    refine lv_dcmp hx hb dL_law_883 ?_
    refine lv_if_eq (tgt := 895) hx hb dL_law_884 (by decide) (fun c9 => absurd c9 c872) (fun _ => ?_)
    refine lv_dload hx hb dL_law_887 (lv_at hl 0 rfl) ?_
    refine lv_dload hx hb dL_law_889 (lv_at hl 0 rfl) ?_
    refine lv_dcmp hx hb dL_law_891 ?_
    refine lv_if_ne (tgt := 897) hx hb dL_law_892 (by decide) (fun _ => ?_) (fun c9 => absurd c9 c872)
    refine lv_goto (tgt := 1177) hx hb dL_law_897 (by decide) ?_
    exact kk9 x kk tt f4 _ _ ls (LwI.of (x := x) (kk := kk) (tt := tt) hR1 ⟨_, _, _, _, _, _, _, _, _, _, _, _, _, _, _, _, _, _, hX2, hMk, hMb, hMw, hMt, hMp⟩ ⟨_, hoth⟩ ⟨_, hown9⟩ hG htt hTT) (Nat.le_add_right _ _) hw (lv_sub hl [2, 3, 4, 5, 6, 7] rfl)

set_option maxHeartbeats 4000000 in
set_option maxRecDepth 100000 in
theorem k_told_00 {p : Program} {l : Launch} {e : Env} {s : State} {m : MethodId} {below : List Frame} {meth : Method} {c : Code} {G : va_G} {dA : Nat → ClassId} {b Ls si : Nat} {xs : Nat → Int32} {sa ad : Nat → Nat} {L : List Nat} {nl nb : Nat} {q qk : Nat → Option Nat} {x : sR} {kk : Nat → UInt64 × UInt64} {tt : sT} {f : Nat → va_E} {H : Heap} {locs : List Loc} {ls : Array Slot} {cells slots : Nat}  (hLC : LC p l s m c meth b Ls xs G dA sa ad L nl nb q qk) (hsi : si + 5 ≤ Ls) (hc1 : cells + 1 ≤ room_1.cells) (hs1 : slots + 6 ≤ room_1.slots) (hLI : LwI ad dA nl nb q qk x kk tt f) (hhr : x.2.2.2.2.2 < 2 ^ 29) (hw : ww G dA (fun z : Nat => s.heap.size ≤ z) s L f H locs) (hl : lv_has ls 10 [(0, .ref b), (1, .ref (ad 0)), (2, .ref (ad 16)), (3, .ref (ad 32)), (4, .ref (ad 33)), (5, .int (nI si))]) (hj1 : xs (si + 1) = nI 0)
    (kk9 : ∀ (x2 : sR) (kk2 : Nat → UInt64 × UInt64) (tt2 : sT) (f2 : Nat → va_E) (H : Heap) (locs : List Loc) (ls : Array Slot), LwI ad dA nl nb q qk x2 kk2 tt2 f2 → x2.2.2.2.2.2 ≤ x.2.2.2.2.2 + 100 → ww G dA (fun z : Nat => s.heap.size ≤ z) s L f2 H locs → lv_has ls 10 [(0, .ref b), (1, .ref (ad 0)), (2, .ref (ad 16)), (3, .ref (ad 32)), (4, .ref (ad 33)), (5, .int (nI si))] → W p l e room_1 s m #[Value.ref b] below meth c H locs (cells + 1) (slots + 6) (lw_Z below #[Value.ref b] s) (F0 m 1177 ls [])) : W p l e room_1 s m #[Value.ref b] below meth c H locs cells slots (lw_Z below #[Value.ref b] s) (F0 m 1030 ls []) := by
  obtain ⟨hx, hb, hml, hown, hts, hXs, hbl, hlt, hE, hC, hLs, hret, hlocks⟩ := hLC
  have hA : ∀ z : Nat, s.heap.size ≤ z → (fun z : Nat => s.heap.size ≤ z) z := fun _ h => h
  have hbA : ¬ (fun z : Nat => s.heap.size ≤ z) b := Nat.not_le.mpr hbl
  obtain ⟨hR, ⟨thr, hM⟩, ⟨o, ho⟩, ⟨od, hd⟩, hG, htt, hTT⟩ := hLI
  obtain ⟨pa, bad, num, RA, RB, TH, DE, KI, WE, NX, LI, LM, KE, TX, BW, TI, KV, DM, hX, hMk, hMb, hMw, hMt, hMp⟩ := hM
  refine lv_aload_n hx hb dL_law_1030 rfl (lv_at hl 1 rfl) ?_
  refine lv_aload_n hx hb dL_law_1031 rfl (lv_at hl 0 rfl) ?_
  refine lv_iload hx hb dL_law_1032 (lv_at hl 5 rfl) ?_
  refine lv_iconst (v := 1) hx hb dL_law_1034 (by decide) ?_
  refine lv_iadd hx hb dL_law_1035 ?_
  rw [show nI si + 1 = nI (si + 1) from nI_add si 1]
  refine va_sld hx hb hXs hbl hbA hw.2.2.2 (vp_in_nI (show si + 1 < Ls by omega) (by omega)) dL_law_1036 ?_
  rw [nI_clamp (show si + 1 < 2 ^ 31 by omega)]
  rw [hj1]
  refine lv_aload hx hb dL_law_1037 (lv_at hl 4 rfl) ?_
  refine kH (As := [.ref (ad 0), .int (nI 0), .ref (ad 33)]) (rest := []) ⟨hx, hb, hml, hown, hts⟩ (h_c_X6_told_0 l hlt G dA sa L f ad (nl + 1) nb q qk x.1 x.2.1 x.2.2.1 x.2.2.2.1 kk tt x.2.2.2.2.1 x.2.2.2.2.2  hC hR  od hd) (vx_cwSW 3 hts gL_law_L_told rfl rfl rfl (by decide +kernel) ⟨Nat.le_of_ble_eq_true rfl, Nat.le_of_ble_eq_true rfl⟩) hw hE hA rfl hl.1 rfl (Nat.le_of_ble_eq_true rfl) dL_law_1039 ⟨hc1, hs1⟩ (fun r2 f1 H locs hp hw => ?_)
  obtain ⟨e1, hp⟩ := hp
  rw [e1]
  have ef : f1 = va_up f (ad 33) (aD (dA 1) 1 (vf_upd od 0 x.1.1)) := hp
  have hR1 : RC ad dA (nl + 1) nb q qk x.1 x.2.1 x.2.2.1 x.2.2.2.1 kk tt x.2.2.2.2.1 x.2.2.2.2.2 f1 f1 := hR.mv (fun i hi h => by rw [ef]; exact va_up_ne _ _ (hC.ne hi (by omega) (by omega))) (fun _ _ _ => rfl)
  have hX3 : MX ad dA (nl + 1) nb ((x.1).1) ((x.1).2.1) ((x.1).2.2.1) ((x.1).2.2.2) ((x.2.1).1) ((x.2.1).2) x.2.2.2.2.2 tt.1 ((x.2.2.2.2.1).1) ((x.2.2.2.2.1).2.1) thr pa bad num RA RB TH DE KI WE NX LI LM KE TX BW TI KV DM f1 f1 := hX.mv (fun i h1 h2 => by rw [ef]; exact va_up_ne _ _ (hC.ne (by omega) (by omega) (by omega))) (fun _ _ _ => rfl)
  have hoth : f1 (ad 32) = aL (dA 4) 1 o := by rw [ef]; exact (va_up_ne _ _ (hC.ne (by omega) (by omega) (by decide))).trans ho
  have hown9 : f1 (ad 33) = aD (dA 1) 1 (vf_upd od 0 x.1.1) := by rw [ef]; exact va_up_self _ _ _
  refine lv_istore (lv' := [(6, .int 0), (0, .ref b), (1, .ref (ad 0)), (2, .ref (ad 16)), (3, .ref (ad 32)), (4, .ref (ad 33)), (5, .int (nI si))]) hx hb dL_law_1042 hl (by decide) rfl (fun ls hl => ?_)
  refine lv_aload_n hx hb dL_law_1044 rfl (lv_at hl 3 rfl) ?_
  refine lv_aload_n hx hb dL_law_1045 rfl (lv_at hl 1 rfl) ?_
  refine lv_iload hx hb dL_law_1046 (lv_at hl 6 rfl) ?_
  refine lv_iconst (v := 1) hx hb dL_law_1048 (by decide) ?_
  refine lv_iadd hx hb dL_law_1049 ?_
  rw [show nI si + 1 = nI (si + 1) from nI_add si 1]
  refine va_sld hx hb hXs hbl hbA hw.2.2.2 (vp_in_nI (show si + 1 < Ls by omega) (by omega)) dL_law_1050 ?_
  rw [nI_clamp (show si + 1 < 2 ^ 31 by omega)]
  rw [hj1]
  refine kV_D (C := RX7) (T := TX7) (N := 31) (As := [.int (nI 0)]) (rest := []) ⟨hx, hb, hml, hown, hts⟩ (c_X7_told_0 l G dA L f1 ad (nl + 1) nb q qk ((x.1).1) ((x.1).2.1) ((x.1).2.2.1) ((x.1).2.2.2) ((x.2.1).1) ((x.2.1).2) x.2.2.2.2.2 tt.1 ((x.2.2.2.2.1).1) ((x.2.2.2.2.1).2.1) thr pa bad num RA RB TH DE KI WE NX LI LM KE TX BW TI KV DM f1  hC hX3 ) (cwV 1 hts gL_law_X7_told rfl rfl rfl (by decide +kernel) ⟨Nat.le_of_ble_eq_true rfl, Nat.le_of_ble_eq_true rfl⟩) hw hA (hC.m (by decide)) hX3.o rfl rfl hl.1 rfl (Nat.le_of_ble_eq_true rfl) dL_law_1051 ⟨hc1, hs1⟩ (fun r5 f4 H locs hp hw => ?_)
  obtain ⟨e1, hp⟩ := hp
  rw [e1]
  have hX2 : MX ad dA (nl + 1) nb ((x.1).1) ((x.1).2.1) ((x.1).2.2.1) ((x.1).2.2.2) ((x.2.1).1) ((x.2.1).2) x.2.2.2.2.2 tt.1 ((x.2.2.2.2.1).1) ((x.2.2.2.2.1).2.1) 0 pa bad num RA RB TH DE KI WE NX LI LM KE TX BW TI KV DM f1 f4 := hp
  refine lv_dstore (lv' := [(7, .double x.1.1), (6, .int 0), (0, .ref b), (1, .ref (ad 0)), (2, .ref (ad 16)), (3, .ref (ad 32)), (4, .ref (ad 33)), (5, .int (nI si))]) hx hb dL_law_1054 hl (by decide) rfl (fun ls hl => ?_)
  refine lv_aload_n hx hb dL_law_1056 rfl (lv_at hl 4 rfl) ?_
  refine kV_I (C := RX7) (T := TX7) (N := 31) (As := []) (rest := []) ⟨hx, hb, hml, hown, hts⟩ (c_X7_thrown l G dA L f4 ad (nl + 1) nb q qk ((x.1).1) ((x.1).2.1) ((x.1).2.2.1) ((x.1).2.2.2) ((x.2.1).1) ((x.2.1).2) x.2.2.2.2.2 tt.1 ((x.2.2.2.2.1).1) ((x.2.2.2.2.1).2.1) 0 pa bad num RA RB TH DE KI WE NX LI LM KE TX BW TI KV DM f1 hC hX2) (cwV 0 hts gL_law_X7_thrown rfl rfl rfl (by decide +kernel) ⟨Nat.le_of_ble_eq_true rfl, Nat.le_of_ble_eq_true rfl⟩) hw hA (hC.m (by decide)) hX2.o rfl rfl hl.1 rfl (Nat.le_of_ble_eq_true rfl) dL_law_1057 ⟨hc1, hs1⟩ (fun r6 f7 H locs hp hw => ?_)
  obtain ⟨e1, e2⟩ := hp
  rw [e2] at hw
  rw [e1]
  refine lv_iload hx hb dL_law_1060 (lv_at hl 1 rfl) ?_
  refine lv_icmp_eq (tgt := 1067) hx hb dL_law_1062 (by decide) (fun _ => ?_) (fun c9 => absurd rfl c9)
  refine lv_iload hx hb dL_law_1067 (lv_at hl 1 rfl) ?_
  refine lv_if_ne (tgt := 1104) hx hb dL_law_1069 (by decide) (fun c9 => absurd c9 (fun h7 => h7 rfl)) (fun _ => ?_)
  refine lv_aload hx hb dL_law_1072 (lv_at hl 6 rfl) ?_
  refine lv_iconst (v := 0) hx hb dL_law_1074 (by decide) ?_
  refine wld_d hx hb hw (hC.m (by decide)) ((hX2.fr (by omega) (by omega)).trans hown9) 0 (by decide) (by decide) nI_0.symm dL_law_1075 ?_
  rw [show ((vf_upd od 0 x.1.1)) 0 = x.1.1 from vfD_s]
  refine lv_dload hx hb dL_law_1076 (lv_at hl 0 rfl) ?_
  refine lv_dcmp hx hb dL_law_1078 ?_
  refine lv_if_eq (tgt := 1104) hx hb dL_law_1079 (by decide) (fun c1079 => ?_) (fun c1079 => ?_)
  · refine lv_goto (tgt := 1177) hx hb dL_law_1104 (by decide) ?_
    exact kk9 x kk tt f4 _ _ ls (LwI.of (x := x) (kk := kk) (tt := tt) hR1 ⟨_, _, _, _, _, _, _, _, _, _, _, _, _, _, _, _, _, _, hX2, hMk, hMb, hMw, hMt, hMp⟩ ⟨_, hoth⟩ ⟨_, hown9⟩ hG htt hTT) (Nat.le_add_right _ _) hw (lv_sub hl [2, 3, 4, 5, 6, 7] rfl)
  · refine lv_aload hx hb dL_law_1082 (lv_at hl 6 rfl) ?_
    refine lv_iconst (v := 0) hx hb dL_law_1084 (by decide) ?_
    refine wld_d hx hb hw (hC.m (by decide)) ((hX2.fr (by omega) (by omega)).trans hown9) 0 (by decide) (by decide) nI_0.symm dL_law_1085 ?_
    rw [show ((vf_upd od 0 x.1.1)) 0 = x.1.1 from vfD_s]
    refine lv_aload hx hb dL_law_1086 (lv_at hl 6 rfl) ?_
    refine lv_iconst (v := 0) hx hb dL_law_1088 (by decide) ?_
    refine wld_d hx hb hw (hC.m (by decide)) ((hX2.fr (by omega) (by omega)).trans hown9) 0 (by decide) (by decide) nI_0.symm dL_law_1089 ?_
    rw [show ((vf_upd od 0 x.1.1)) 0 = x.1.1 from vfD_s]
    refine lv_dcmp hx hb dL_law_1090 ?_
    refine lv_if_eq (tgt := 1102) hx hb dL_law_1091 (by decide) (fun c9 => absurd c9 c1079) (fun _ => ?_)
    refine lv_dload hx hb dL_law_1094 (lv_at hl 0 rfl) ?_
    refine lv_dload hx hb dL_law_1096 (lv_at hl 0 rfl) ?_
    refine lv_dcmp hx hb dL_law_1098 ?_
    refine lv_if_ne (tgt := 1104) hx hb dL_law_1099 (by decide) (fun _ => ?_) (fun c9 => absurd c9 c1079)
    refine lv_goto (tgt := 1177) hx hb dL_law_1104 (by decide) ?_
    exact kk9 x kk tt f4 _ _ ls (LwI.of (x := x) (kk := kk) (tt := tt) hR1 ⟨_, _, _, _, _, _, _, _, _, _, _, _, _, _, _, _, _, _, hX2, hMk, hMb, hMw, hMt, hMp⟩ ⟨_, hoth⟩ ⟨_, hown9⟩ hG htt hTT) (Nat.le_add_right _ _) hw (lv_sub hl [2, 3, 4, 5, 6, 7] rfl)

set_option maxHeartbeats 4000000 in
set_option maxRecDepth 100000 in
theorem k_told_01 {p : Program} {l : Launch} {e : Env} {s : State} {m : MethodId} {below : List Frame} {meth : Method} {c : Code} {G : va_G} {dA : Nat → ClassId} {b Ls si : Nat} {xs : Nat → Int32} {sa ad : Nat → Nat} {L : List Nat} {nl nb : Nat} {q qk : Nat → Option Nat} {x : sR} {kk : Nat → UInt64 × UInt64} {tt : sT} {f : Nat → va_E} {H : Heap} {locs : List Loc} {ls : Array Slot} {cells slots : Nat}  (hLC : LC p l s m c meth b Ls xs G dA sa ad L nl nb q qk) (hsi : si + 5 ≤ Ls) (hc1 : cells + 1 ≤ room_1.cells) (hs1 : slots + 6 ≤ room_1.slots) (hLI : LwI ad dA nl nb q qk x kk tt f) (hhr : x.2.2.2.2.2 < 2 ^ 29) (hw : ww G dA (fun z : Nat => s.heap.size ≤ z) s L f H locs) (hl : lv_has ls 10 [(0, .ref b), (1, .ref (ad 0)), (2, .ref (ad 16)), (3, .ref (ad 32)), (4, .ref (ad 33)), (5, .int (nI si))]) (hj1 : xs (si + 1) = nI 1)
    (kk9 : ∀ (x2 : sR) (kk2 : Nat → UInt64 × UInt64) (tt2 : sT) (f2 : Nat → va_E) (H : Heap) (locs : List Loc) (ls : Array Slot), LwI ad dA nl nb q qk x2 kk2 tt2 f2 → x2.2.2.2.2.2 ≤ x.2.2.2.2.2 + 100 → ww G dA (fun z : Nat => s.heap.size ≤ z) s L f2 H locs → lv_has ls 10 [(0, .ref b), (1, .ref (ad 0)), (2, .ref (ad 16)), (3, .ref (ad 32)), (4, .ref (ad 33)), (5, .int (nI si))] → W p l e room_1 s m #[Value.ref b] below meth c H locs (cells + 1) (slots + 6) (lw_Z below #[Value.ref b] s) (F0 m 1177 ls [])) : W p l e room_1 s m #[Value.ref b] below meth c H locs cells slots (lw_Z below #[Value.ref b] s) (F0 m 1030 ls []) := by
  obtain ⟨hx, hb, hml, hown, hts, hXs, hbl, hlt, hE, hC, hLs, hret, hlocks⟩ := hLC
  have hA : ∀ z : Nat, s.heap.size ≤ z → (fun z : Nat => s.heap.size ≤ z) z := fun _ h => h
  have hbA : ¬ (fun z : Nat => s.heap.size ≤ z) b := Nat.not_le.mpr hbl
  obtain ⟨hR, ⟨thr, hM⟩, ⟨o, ho⟩, ⟨od, hd⟩, hG, htt, hTT⟩ := hLI
  obtain ⟨pa, bad, num, RA, RB, TH, DE, KI, WE, NX, LI, LM, KE, TX, BW, TI, KV, DM, hX, hMk, hMb, hMw, hMt, hMp⟩ := hM
  refine lv_aload_n hx hb dL_law_1030 rfl (lv_at hl 1 rfl) ?_
  refine lv_aload_n hx hb dL_law_1031 rfl (lv_at hl 0 rfl) ?_
  refine lv_iload hx hb dL_law_1032 (lv_at hl 5 rfl) ?_
  refine lv_iconst (v := 1) hx hb dL_law_1034 (by decide) ?_
  refine lv_iadd hx hb dL_law_1035 ?_
  rw [show nI si + 1 = nI (si + 1) from nI_add si 1]
  refine va_sld hx hb hXs hbl hbA hw.2.2.2 (vp_in_nI (show si + 1 < Ls by omega) (by omega)) dL_law_1036 ?_
  rw [nI_clamp (show si + 1 < 2 ^ 31 by omega)]
  rw [hj1]
  refine lv_aload hx hb dL_law_1037 (lv_at hl 4 rfl) ?_
  refine kH (As := [.ref (ad 0), .int (nI 1), .ref (ad 33)]) (rest := []) ⟨hx, hb, hml, hown, hts⟩ (h_c_X6_told_1 l hlt G dA sa L f ad (nl + 1) nb q qk x.1 x.2.1 x.2.2.1 x.2.2.2.1 kk tt x.2.2.2.2.1 x.2.2.2.2.2  hC hR  od hd) (vx_cwSW 3 hts gL_law_L_told rfl rfl rfl (by decide +kernel) ⟨Nat.le_of_ble_eq_true rfl, Nat.le_of_ble_eq_true rfl⟩) hw hE hA rfl hl.1 rfl (Nat.le_of_ble_eq_true rfl) dL_law_1039 ⟨hc1, hs1⟩ (fun r2 f1 H locs hp hw => ?_)
  obtain ⟨e1, hp⟩ := hp
  rw [e1]
  have ef : f1 = va_up f (ad 33) (aD (dA 1) 1 (vf_upd od 0 x.1.2.1)) := hp
  have hR1 : RC ad dA (nl + 1) nb q qk x.1 x.2.1 x.2.2.1 x.2.2.2.1 kk tt x.2.2.2.2.1 x.2.2.2.2.2 f1 f1 := hR.mv (fun i hi h => by rw [ef]; exact va_up_ne _ _ (hC.ne hi (by omega) (by omega))) (fun _ _ _ => rfl)
  have hX3 : MX ad dA (nl + 1) nb ((x.1).1) ((x.1).2.1) ((x.1).2.2.1) ((x.1).2.2.2) ((x.2.1).1) ((x.2.1).2) x.2.2.2.2.2 tt.1 ((x.2.2.2.2.1).1) ((x.2.2.2.2.1).2.1) thr pa bad num RA RB TH DE KI WE NX LI LM KE TX BW TI KV DM f1 f1 := hX.mv (fun i h1 h2 => by rw [ef]; exact va_up_ne _ _ (hC.ne (by omega) (by omega) (by omega))) (fun _ _ _ => rfl)
  have hoth : f1 (ad 32) = aL (dA 4) 1 o := by rw [ef]; exact (va_up_ne _ _ (hC.ne (by omega) (by omega) (by decide))).trans ho
  have hown9 : f1 (ad 33) = aD (dA 1) 1 (vf_upd od 0 x.1.2.1) := by rw [ef]; exact va_up_self _ _ _
  refine lv_istore (lv' := [(6, .int 0), (0, .ref b), (1, .ref (ad 0)), (2, .ref (ad 16)), (3, .ref (ad 32)), (4, .ref (ad 33)), (5, .int (nI si))]) hx hb dL_law_1042 hl (by decide) rfl (fun ls hl => ?_)
  refine lv_aload_n hx hb dL_law_1044 rfl (lv_at hl 3 rfl) ?_
  refine lv_aload_n hx hb dL_law_1045 rfl (lv_at hl 1 rfl) ?_
  refine lv_iload hx hb dL_law_1046 (lv_at hl 6 rfl) ?_
  refine lv_iconst (v := 1) hx hb dL_law_1048 (by decide) ?_
  refine lv_iadd hx hb dL_law_1049 ?_
  rw [show nI si + 1 = nI (si + 1) from nI_add si 1]
  refine va_sld hx hb hXs hbl hbA hw.2.2.2 (vp_in_nI (show si + 1 < Ls by omega) (by omega)) dL_law_1050 ?_
  rw [nI_clamp (show si + 1 < 2 ^ 31 by omega)]
  rw [hj1]
  refine kV_D (C := RX7) (T := TX7) (N := 31) (As := [.int (nI 1)]) (rest := []) ⟨hx, hb, hml, hown, hts⟩ (c_X7_told_1 l G dA L f1 ad (nl + 1) nb q qk ((x.1).1) ((x.1).2.1) ((x.1).2.2.1) ((x.1).2.2.2) ((x.2.1).1) ((x.2.1).2) x.2.2.2.2.2 tt.1 ((x.2.2.2.2.1).1) ((x.2.2.2.2.1).2.1) thr pa bad num RA RB TH DE KI WE NX LI LM KE TX BW TI KV DM f1  hC hX3 ) (cwV 1 hts gL_law_X7_told rfl rfl rfl (by decide +kernel) ⟨Nat.le_of_ble_eq_true rfl, Nat.le_of_ble_eq_true rfl⟩) hw hA (hC.m (by decide)) hX3.o rfl rfl hl.1 rfl (Nat.le_of_ble_eq_true rfl) dL_law_1051 ⟨hc1, hs1⟩ (fun r5 f4 H locs hp hw => ?_)
  obtain ⟨e1, hp⟩ := hp
  rw [e1]
  have hX2 : MX ad dA (nl + 1) nb ((x.1).1) ((x.1).2.1) ((x.1).2.2.1) ((x.1).2.2.2) ((x.2.1).1) ((x.2.1).2) x.2.2.2.2.2 tt.1 ((x.2.2.2.2.1).1) ((x.2.2.2.2.1).2.1) 0 pa bad num RA RB TH DE KI WE NX LI LM KE TX BW TI KV DM f1 f4 := hp
  refine lv_dstore (lv' := [(7, .double x.1.2.1), (6, .int 0), (0, .ref b), (1, .ref (ad 0)), (2, .ref (ad 16)), (3, .ref (ad 32)), (4, .ref (ad 33)), (5, .int (nI si))]) hx hb dL_law_1054 hl (by decide) rfl (fun ls hl => ?_)
  refine lv_aload_n hx hb dL_law_1056 rfl (lv_at hl 4 rfl) ?_
  refine kV_I (C := RX7) (T := TX7) (N := 31) (As := []) (rest := []) ⟨hx, hb, hml, hown, hts⟩ (c_X7_thrown l G dA L f4 ad (nl + 1) nb q qk ((x.1).1) ((x.1).2.1) ((x.1).2.2.1) ((x.1).2.2.2) ((x.2.1).1) ((x.2.1).2) x.2.2.2.2.2 tt.1 ((x.2.2.2.2.1).1) ((x.2.2.2.2.1).2.1) 0 pa bad num RA RB TH DE KI WE NX LI LM KE TX BW TI KV DM f1 hC hX2) (cwV 0 hts gL_law_X7_thrown rfl rfl rfl (by decide +kernel) ⟨Nat.le_of_ble_eq_true rfl, Nat.le_of_ble_eq_true rfl⟩) hw hA (hC.m (by decide)) hX2.o rfl rfl hl.1 rfl (Nat.le_of_ble_eq_true rfl) dL_law_1057 ⟨hc1, hs1⟩ (fun r6 f7 H locs hp hw => ?_)
  obtain ⟨e1, e2⟩ := hp
  rw [e2] at hw
  rw [e1]
  refine lv_iload hx hb dL_law_1060 (lv_at hl 1 rfl) ?_
  refine lv_icmp_eq (tgt := 1067) hx hb dL_law_1062 (by decide) (fun _ => ?_) (fun c9 => absurd rfl c9)
  refine lv_iload hx hb dL_law_1067 (lv_at hl 1 rfl) ?_
  refine lv_if_ne (tgt := 1104) hx hb dL_law_1069 (by decide) (fun c9 => absurd c9 (fun h7 => h7 rfl)) (fun _ => ?_)
  refine lv_aload hx hb dL_law_1072 (lv_at hl 6 rfl) ?_
  refine lv_iconst (v := 0) hx hb dL_law_1074 (by decide) ?_
  refine wld_d hx hb hw (hC.m (by decide)) ((hX2.fr (by omega) (by omega)).trans hown9) 0 (by decide) (by decide) nI_0.symm dL_law_1075 ?_
  rw [show ((vf_upd od 0 x.1.2.1)) 0 = x.1.2.1 from vfD_s]
  refine lv_dload hx hb dL_law_1076 (lv_at hl 0 rfl) ?_
  refine lv_dcmp hx hb dL_law_1078 ?_
  refine lv_if_eq (tgt := 1104) hx hb dL_law_1079 (by decide) (fun c1079 => ?_) (fun c1079 => ?_)
  · refine lv_goto (tgt := 1177) hx hb dL_law_1104 (by decide) ?_
    exact kk9 x kk tt f4 _ _ ls (LwI.of (x := x) (kk := kk) (tt := tt) hR1 ⟨_, _, _, _, _, _, _, _, _, _, _, _, _, _, _, _, _, _, hX2, hMk, hMb, hMw, hMt, hMp⟩ ⟨_, hoth⟩ ⟨_, hown9⟩ hG htt hTT) (Nat.le_add_right _ _) hw (lv_sub hl [2, 3, 4, 5, 6, 7] rfl)
  · refine lv_aload hx hb dL_law_1082 (lv_at hl 6 rfl) ?_
    refine lv_iconst (v := 0) hx hb dL_law_1084 (by decide) ?_
    refine wld_d hx hb hw (hC.m (by decide)) ((hX2.fr (by omega) (by omega)).trans hown9) 0 (by decide) (by decide) nI_0.symm dL_law_1085 ?_
    rw [show ((vf_upd od 0 x.1.2.1)) 0 = x.1.2.1 from vfD_s]
    refine lv_aload hx hb dL_law_1086 (lv_at hl 6 rfl) ?_
    refine lv_iconst (v := 0) hx hb dL_law_1088 (by decide) ?_
    refine wld_d hx hb hw (hC.m (by decide)) ((hX2.fr (by omega) (by omega)).trans hown9) 0 (by decide) (by decide) nI_0.symm dL_law_1089 ?_
    rw [show ((vf_upd od 0 x.1.2.1)) 0 = x.1.2.1 from vfD_s]
    refine lv_dcmp hx hb dL_law_1090 ?_
    refine lv_if_eq (tgt := 1102) hx hb dL_law_1091 (by decide) (fun c9 => absurd c9 c1079) (fun _ => ?_)
    refine lv_dload hx hb dL_law_1094 (lv_at hl 0 rfl) ?_
    refine lv_dload hx hb dL_law_1096 (lv_at hl 0 rfl) ?_
    refine lv_dcmp hx hb dL_law_1098 ?_
    refine lv_if_ne (tgt := 1104) hx hb dL_law_1099 (by decide) (fun _ => ?_) (fun c9 => absurd c9 c1079)
    refine lv_goto (tgt := 1177) hx hb dL_law_1104 (by decide) ?_
    exact kk9 x kk tt f4 _ _ ls (LwI.of (x := x) (kk := kk) (tt := tt) hR1 ⟨_, _, _, _, _, _, _, _, _, _, _, _, _, _, _, _, _, _, hX2, hMk, hMb, hMw, hMt, hMp⟩ ⟨_, hoth⟩ ⟨_, hown9⟩ hG htt hTT) (Nat.le_add_right _ _) hw (lv_sub hl [2, 3, 4, 5, 6, 7] rfl)

set_option maxHeartbeats 4000000 in
set_option maxRecDepth 100000 in
theorem k_told_02 {p : Program} {l : Launch} {e : Env} {s : State} {m : MethodId} {below : List Frame} {meth : Method} {c : Code} {G : va_G} {dA : Nat → ClassId} {b Ls si : Nat} {xs : Nat → Int32} {sa ad : Nat → Nat} {L : List Nat} {nl nb : Nat} {q qk : Nat → Option Nat} {x : sR} {kk : Nat → UInt64 × UInt64} {tt : sT} {f : Nat → va_E} {H : Heap} {locs : List Loc} {ls : Array Slot} {cells slots : Nat}  (hLC : LC p l s m c meth b Ls xs G dA sa ad L nl nb q qk) (hsi : si + 5 ≤ Ls) (hc1 : cells + 1 ≤ room_1.cells) (hs1 : slots + 6 ≤ room_1.slots) (hLI : LwI ad dA nl nb q qk x kk tt f) (hhr : x.2.2.2.2.2 < 2 ^ 29) (hw : ww G dA (fun z : Nat => s.heap.size ≤ z) s L f H locs) (hl : lv_has ls 10 [(0, .ref b), (1, .ref (ad 0)), (2, .ref (ad 16)), (3, .ref (ad 32)), (4, .ref (ad 33)), (5, .int (nI si))]) (hj1 : xs (si + 1) = nI 2)
    (kk9 : ∀ (x2 : sR) (kk2 : Nat → UInt64 × UInt64) (tt2 : sT) (f2 : Nat → va_E) (H : Heap) (locs : List Loc) (ls : Array Slot), LwI ad dA nl nb q qk x2 kk2 tt2 f2 → x2.2.2.2.2.2 ≤ x.2.2.2.2.2 + 100 → ww G dA (fun z : Nat => s.heap.size ≤ z) s L f2 H locs → lv_has ls 10 [(0, .ref b), (1, .ref (ad 0)), (2, .ref (ad 16)), (3, .ref (ad 32)), (4, .ref (ad 33)), (5, .int (nI si))] → W p l e room_1 s m #[Value.ref b] below meth c H locs (cells + 1) (slots + 6) (lw_Z below #[Value.ref b] s) (F0 m 1177 ls [])) : W p l e room_1 s m #[Value.ref b] below meth c H locs cells slots (lw_Z below #[Value.ref b] s) (F0 m 1030 ls []) := by
  obtain ⟨hx, hb, hml, hown, hts, hXs, hbl, hlt, hE, hC, hLs, hret, hlocks⟩ := hLC
  have hA : ∀ z : Nat, s.heap.size ≤ z → (fun z : Nat => s.heap.size ≤ z) z := fun _ h => h
  have hbA : ¬ (fun z : Nat => s.heap.size ≤ z) b := Nat.not_le.mpr hbl
  obtain ⟨hR, ⟨thr, hM⟩, ⟨o, ho⟩, ⟨od, hd⟩, hG, htt, hTT⟩ := hLI
  obtain ⟨pa, bad, num, RA, RB, TH, DE, KI, WE, NX, LI, LM, KE, TX, BW, TI, KV, DM, hX, hMk, hMb, hMw, hMt, hMp⟩ := hM
  refine lv_aload_n hx hb dL_law_1030 rfl (lv_at hl 1 rfl) ?_
  refine lv_aload_n hx hb dL_law_1031 rfl (lv_at hl 0 rfl) ?_
  refine lv_iload hx hb dL_law_1032 (lv_at hl 5 rfl) ?_
  refine lv_iconst (v := 1) hx hb dL_law_1034 (by decide) ?_
  refine lv_iadd hx hb dL_law_1035 ?_
  rw [show nI si + 1 = nI (si + 1) from nI_add si 1]
  refine va_sld hx hb hXs hbl hbA hw.2.2.2 (vp_in_nI (show si + 1 < Ls by omega) (by omega)) dL_law_1036 ?_
  rw [nI_clamp (show si + 1 < 2 ^ 31 by omega)]
  rw [hj1]
  refine lv_aload hx hb dL_law_1037 (lv_at hl 4 rfl) ?_
  refine kH (As := [.ref (ad 0), .int (nI 2), .ref (ad 33)]) (rest := []) ⟨hx, hb, hml, hown, hts⟩ (h_c_X6_told_2 l hlt G dA sa L f ad (nl + 1) nb q qk x.1 x.2.1 x.2.2.1 x.2.2.2.1 kk tt x.2.2.2.2.1 x.2.2.2.2.2  hC hR  od hd) (vx_cwSW 3 hts gL_law_L_told rfl rfl rfl (by decide +kernel) ⟨Nat.le_of_ble_eq_true rfl, Nat.le_of_ble_eq_true rfl⟩) hw hE hA rfl hl.1 rfl (Nat.le_of_ble_eq_true rfl) dL_law_1039 ⟨hc1, hs1⟩ (fun r2 f1 H locs hp hw => ?_)
  obtain ⟨e1, hp⟩ := hp
  rw [e1]
  have ef : f1 = va_up f (ad 33) (aD (dA 1) 1 (vf_upd od 0 x.1.2.2.1)) := hp
  have hR1 : RC ad dA (nl + 1) nb q qk x.1 x.2.1 x.2.2.1 x.2.2.2.1 kk tt x.2.2.2.2.1 x.2.2.2.2.2 f1 f1 := hR.mv (fun i hi h => by rw [ef]; exact va_up_ne _ _ (hC.ne hi (by omega) (by omega))) (fun _ _ _ => rfl)
  have hX3 : MX ad dA (nl + 1) nb ((x.1).1) ((x.1).2.1) ((x.1).2.2.1) ((x.1).2.2.2) ((x.2.1).1) ((x.2.1).2) x.2.2.2.2.2 tt.1 ((x.2.2.2.2.1).1) ((x.2.2.2.2.1).2.1) thr pa bad num RA RB TH DE KI WE NX LI LM KE TX BW TI KV DM f1 f1 := hX.mv (fun i h1 h2 => by rw [ef]; exact va_up_ne _ _ (hC.ne (by omega) (by omega) (by omega))) (fun _ _ _ => rfl)
  have hoth : f1 (ad 32) = aL (dA 4) 1 o := by rw [ef]; exact (va_up_ne _ _ (hC.ne (by omega) (by omega) (by decide))).trans ho
  have hown9 : f1 (ad 33) = aD (dA 1) 1 (vf_upd od 0 x.1.2.2.1) := by rw [ef]; exact va_up_self _ _ _
  refine lv_istore (lv' := [(6, .int 0), (0, .ref b), (1, .ref (ad 0)), (2, .ref (ad 16)), (3, .ref (ad 32)), (4, .ref (ad 33)), (5, .int (nI si))]) hx hb dL_law_1042 hl (by decide) rfl (fun ls hl => ?_)
  refine lv_aload_n hx hb dL_law_1044 rfl (lv_at hl 3 rfl) ?_
  refine lv_aload_n hx hb dL_law_1045 rfl (lv_at hl 1 rfl) ?_
  refine lv_iload hx hb dL_law_1046 (lv_at hl 6 rfl) ?_
  refine lv_iconst (v := 1) hx hb dL_law_1048 (by decide) ?_
  refine lv_iadd hx hb dL_law_1049 ?_
  rw [show nI si + 1 = nI (si + 1) from nI_add si 1]
  refine va_sld hx hb hXs hbl hbA hw.2.2.2 (vp_in_nI (show si + 1 < Ls by omega) (by omega)) dL_law_1050 ?_
  rw [nI_clamp (show si + 1 < 2 ^ 31 by omega)]
  rw [hj1]
  refine kV_D (C := RX7) (T := TX7) (N := 31) (As := [.int (nI 2)]) (rest := []) ⟨hx, hb, hml, hown, hts⟩ (c_X7_told_2 l G dA L f1 ad (nl + 1) nb q qk ((x.1).1) ((x.1).2.1) ((x.1).2.2.1) ((x.1).2.2.2) ((x.2.1).1) ((x.2.1).2) x.2.2.2.2.2 tt.1 ((x.2.2.2.2.1).1) ((x.2.2.2.2.1).2.1) thr pa bad num RA RB TH DE KI WE NX LI LM KE TX BW TI KV DM f1  hC hX3 ) (cwV 1 hts gL_law_X7_told rfl rfl rfl (by decide +kernel) ⟨Nat.le_of_ble_eq_true rfl, Nat.le_of_ble_eq_true rfl⟩) hw hA (hC.m (by decide)) hX3.o rfl rfl hl.1 rfl (Nat.le_of_ble_eq_true rfl) dL_law_1051 ⟨hc1, hs1⟩ (fun r5 f4 H locs hp hw => ?_)
  obtain ⟨e1, hp⟩ := hp
  rw [e1]
  have hX2 : MX ad dA (nl + 1) nb ((x.1).1) ((x.1).2.1) ((x.1).2.2.1) ((x.1).2.2.2) ((x.2.1).1) ((x.2.1).2) x.2.2.2.2.2 tt.1 ((x.2.2.2.2.1).1) ((x.2.2.2.2.1).2.1) 0 pa bad num RA RB TH DE KI WE NX LI LM KE TX BW TI KV DM f1 f4 := hp
  refine lv_dstore (lv' := [(7, .double x.1.2.2.1), (6, .int 0), (0, .ref b), (1, .ref (ad 0)), (2, .ref (ad 16)), (3, .ref (ad 32)), (4, .ref (ad 33)), (5, .int (nI si))]) hx hb dL_law_1054 hl (by decide) rfl (fun ls hl => ?_)
  refine lv_aload_n hx hb dL_law_1056 rfl (lv_at hl 4 rfl) ?_
  refine kV_I (C := RX7) (T := TX7) (N := 31) (As := []) (rest := []) ⟨hx, hb, hml, hown, hts⟩ (c_X7_thrown l G dA L f4 ad (nl + 1) nb q qk ((x.1).1) ((x.1).2.1) ((x.1).2.2.1) ((x.1).2.2.2) ((x.2.1).1) ((x.2.1).2) x.2.2.2.2.2 tt.1 ((x.2.2.2.2.1).1) ((x.2.2.2.2.1).2.1) 0 pa bad num RA RB TH DE KI WE NX LI LM KE TX BW TI KV DM f1 hC hX2) (cwV 0 hts gL_law_X7_thrown rfl rfl rfl (by decide +kernel) ⟨Nat.le_of_ble_eq_true rfl, Nat.le_of_ble_eq_true rfl⟩) hw hA (hC.m (by decide)) hX2.o rfl rfl hl.1 rfl (Nat.le_of_ble_eq_true rfl) dL_law_1057 ⟨hc1, hs1⟩ (fun r6 f7 H locs hp hw => ?_)
  obtain ⟨e1, e2⟩ := hp
  rw [e2] at hw
  rw [e1]
  refine lv_iload hx hb dL_law_1060 (lv_at hl 1 rfl) ?_
  refine lv_icmp_eq (tgt := 1067) hx hb dL_law_1062 (by decide) (fun _ => ?_) (fun c9 => absurd rfl c9)
  refine lv_iload hx hb dL_law_1067 (lv_at hl 1 rfl) ?_
  refine lv_if_ne (tgt := 1104) hx hb dL_law_1069 (by decide) (fun c9 => absurd c9 (fun h7 => h7 rfl)) (fun _ => ?_)
  refine lv_aload hx hb dL_law_1072 (lv_at hl 6 rfl) ?_
  refine lv_iconst (v := 0) hx hb dL_law_1074 (by decide) ?_
  refine wld_d hx hb hw (hC.m (by decide)) ((hX2.fr (by omega) (by omega)).trans hown9) 0 (by decide) (by decide) nI_0.symm dL_law_1075 ?_
  rw [show ((vf_upd od 0 x.1.2.2.1)) 0 = x.1.2.2.1 from vfD_s]
  refine lv_dload hx hb dL_law_1076 (lv_at hl 0 rfl) ?_
  refine lv_dcmp hx hb dL_law_1078 ?_
  refine lv_if_eq (tgt := 1104) hx hb dL_law_1079 (by decide) (fun c1079 => ?_) (fun c1079 => ?_)
  · refine lv_goto (tgt := 1177) hx hb dL_law_1104 (by decide) ?_
    exact kk9 x kk tt f4 _ _ ls (LwI.of (x := x) (kk := kk) (tt := tt) hR1 ⟨_, _, _, _, _, _, _, _, _, _, _, _, _, _, _, _, _, _, hX2, hMk, hMb, hMw, hMt, hMp⟩ ⟨_, hoth⟩ ⟨_, hown9⟩ hG htt hTT) (Nat.le_add_right _ _) hw (lv_sub hl [2, 3, 4, 5, 6, 7] rfl)
  · refine lv_aload hx hb dL_law_1082 (lv_at hl 6 rfl) ?_
    refine lv_iconst (v := 0) hx hb dL_law_1084 (by decide) ?_
    refine wld_d hx hb hw (hC.m (by decide)) ((hX2.fr (by omega) (by omega)).trans hown9) 0 (by decide) (by decide) nI_0.symm dL_law_1085 ?_
    rw [show ((vf_upd od 0 x.1.2.2.1)) 0 = x.1.2.2.1 from vfD_s]
    refine lv_aload hx hb dL_law_1086 (lv_at hl 6 rfl) ?_
    refine lv_iconst (v := 0) hx hb dL_law_1088 (by decide) ?_
    refine wld_d hx hb hw (hC.m (by decide)) ((hX2.fr (by omega) (by omega)).trans hown9) 0 (by decide) (by decide) nI_0.symm dL_law_1089 ?_
    rw [show ((vf_upd od 0 x.1.2.2.1)) 0 = x.1.2.2.1 from vfD_s]
    refine lv_dcmp hx hb dL_law_1090 ?_
    refine lv_if_eq (tgt := 1102) hx hb dL_law_1091 (by decide) (fun c9 => absurd c9 c1079) (fun _ => ?_)
    refine lv_dload hx hb dL_law_1094 (lv_at hl 0 rfl) ?_
    refine lv_dload hx hb dL_law_1096 (lv_at hl 0 rfl) ?_
    refine lv_dcmp hx hb dL_law_1098 ?_
    refine lv_if_ne (tgt := 1104) hx hb dL_law_1099 (by decide) (fun _ => ?_) (fun c9 => absurd c9 c1079)
    refine lv_goto (tgt := 1177) hx hb dL_law_1104 (by decide) ?_
    exact kk9 x kk tt f4 _ _ ls (LwI.of (x := x) (kk := kk) (tt := tt) hR1 ⟨_, _, _, _, _, _, _, _, _, _, _, _, _, _, _, _, _, _, hX2, hMk, hMb, hMw, hMt, hMp⟩ ⟨_, hoth⟩ ⟨_, hown9⟩ hG htt hTT) (Nat.le_add_right _ _) hw (lv_sub hl [2, 3, 4, 5, 6, 7] rfl)

set_option maxHeartbeats 4000000 in
set_option maxRecDepth 100000 in
theorem k_told_03 {p : Program} {l : Launch} {e : Env} {s : State} {m : MethodId} {below : List Frame} {meth : Method} {c : Code} {G : va_G} {dA : Nat → ClassId} {b Ls si : Nat} {xs : Nat → Int32} {sa ad : Nat → Nat} {L : List Nat} {nl nb : Nat} {q qk : Nat → Option Nat} {x : sR} {kk : Nat → UInt64 × UInt64} {tt : sT} {f : Nat → va_E} {H : Heap} {locs : List Loc} {ls : Array Slot} {cells slots : Nat}  (hLC : LC p l s m c meth b Ls xs G dA sa ad L nl nb q qk) (hsi : si + 5 ≤ Ls) (hc1 : cells + 1 ≤ room_1.cells) (hs1 : slots + 6 ≤ room_1.slots) (hLI : LwI ad dA nl nb q qk x kk tt f) (hhr : x.2.2.2.2.2 < 2 ^ 29) (hw : ww G dA (fun z : Nat => s.heap.size ≤ z) s L f H locs) (hl : lv_has ls 10 [(0, .ref b), (1, .ref (ad 0)), (2, .ref (ad 16)), (3, .ref (ad 32)), (4, .ref (ad 33)), (5, .int (nI si))]) (hj1 : xs (si + 1) = nI 3)
    (kk9 : ∀ (x2 : sR) (kk2 : Nat → UInt64 × UInt64) (tt2 : sT) (f2 : Nat → va_E) (H : Heap) (locs : List Loc) (ls : Array Slot), LwI ad dA nl nb q qk x2 kk2 tt2 f2 → x2.2.2.2.2.2 ≤ x.2.2.2.2.2 + 100 → ww G dA (fun z : Nat => s.heap.size ≤ z) s L f2 H locs → lv_has ls 10 [(0, .ref b), (1, .ref (ad 0)), (2, .ref (ad 16)), (3, .ref (ad 32)), (4, .ref (ad 33)), (5, .int (nI si))] → W p l e room_1 s m #[Value.ref b] below meth c H locs (cells + 1) (slots + 6) (lw_Z below #[Value.ref b] s) (F0 m 1177 ls [])) : W p l e room_1 s m #[Value.ref b] below meth c H locs cells slots (lw_Z below #[Value.ref b] s) (F0 m 1030 ls []) := by
  obtain ⟨hx, hb, hml, hown, hts, hXs, hbl, hlt, hE, hC, hLs, hret, hlocks⟩ := hLC
  have hA : ∀ z : Nat, s.heap.size ≤ z → (fun z : Nat => s.heap.size ≤ z) z := fun _ h => h
  have hbA : ¬ (fun z : Nat => s.heap.size ≤ z) b := Nat.not_le.mpr hbl
  obtain ⟨hR, ⟨thr, hM⟩, ⟨o, ho⟩, ⟨od, hd⟩, hG, htt, hTT⟩ := hLI
  obtain ⟨pa, bad, num, RA, RB, TH, DE, KI, WE, NX, LI, LM, KE, TX, BW, TI, KV, DM, hX, hMk, hMb, hMw, hMt, hMp⟩ := hM
  refine lv_aload_n hx hb dL_law_1030 rfl (lv_at hl 1 rfl) ?_
  refine lv_aload_n hx hb dL_law_1031 rfl (lv_at hl 0 rfl) ?_
  refine lv_iload hx hb dL_law_1032 (lv_at hl 5 rfl) ?_
  refine lv_iconst (v := 1) hx hb dL_law_1034 (by decide) ?_
  refine lv_iadd hx hb dL_law_1035 ?_
  rw [show nI si + 1 = nI (si + 1) from nI_add si 1]
  refine va_sld hx hb hXs hbl hbA hw.2.2.2 (vp_in_nI (show si + 1 < Ls by omega) (by omega)) dL_law_1036 ?_
  rw [nI_clamp (show si + 1 < 2 ^ 31 by omega)]
  rw [hj1]
  refine lv_aload hx hb dL_law_1037 (lv_at hl 4 rfl) ?_
  refine kH (As := [.ref (ad 0), .int (nI 3), .ref (ad 33)]) (rest := []) ⟨hx, hb, hml, hown, hts⟩ (h_c_X6_told_3 l hlt G dA sa L f ad (nl + 1) nb q qk x.1 x.2.1 x.2.2.1 x.2.2.2.1 kk tt x.2.2.2.2.1 x.2.2.2.2.2  hC hR  od hd) (vx_cwSW 3 hts gL_law_L_told rfl rfl rfl (by decide +kernel) ⟨Nat.le_of_ble_eq_true rfl, Nat.le_of_ble_eq_true rfl⟩) hw hE hA rfl hl.1 rfl (Nat.le_of_ble_eq_true rfl) dL_law_1039 ⟨hc1, hs1⟩ (fun r2 f1 H locs hp hw => ?_)
  obtain ⟨e1, hp⟩ := hp
  rw [e1]
  have ef : f1 = va_up f (ad 33) (aD (dA 1) 1 (vf_upd od 0 x.1.2.2.2)) := hp
  have hR1 : RC ad dA (nl + 1) nb q qk x.1 x.2.1 x.2.2.1 x.2.2.2.1 kk tt x.2.2.2.2.1 x.2.2.2.2.2 f1 f1 := hR.mv (fun i hi h => by rw [ef]; exact va_up_ne _ _ (hC.ne hi (by omega) (by omega))) (fun _ _ _ => rfl)
  have hX3 : MX ad dA (nl + 1) nb ((x.1).1) ((x.1).2.1) ((x.1).2.2.1) ((x.1).2.2.2) ((x.2.1).1) ((x.2.1).2) x.2.2.2.2.2 tt.1 ((x.2.2.2.2.1).1) ((x.2.2.2.2.1).2.1) thr pa bad num RA RB TH DE KI WE NX LI LM KE TX BW TI KV DM f1 f1 := hX.mv (fun i h1 h2 => by rw [ef]; exact va_up_ne _ _ (hC.ne (by omega) (by omega) (by omega))) (fun _ _ _ => rfl)
  have hoth : f1 (ad 32) = aL (dA 4) 1 o := by rw [ef]; exact (va_up_ne _ _ (hC.ne (by omega) (by omega) (by decide))).trans ho
  have hown9 : f1 (ad 33) = aD (dA 1) 1 (vf_upd od 0 x.1.2.2.2) := by rw [ef]; exact va_up_self _ _ _
  refine lv_istore (lv' := [(6, .int 0), (0, .ref b), (1, .ref (ad 0)), (2, .ref (ad 16)), (3, .ref (ad 32)), (4, .ref (ad 33)), (5, .int (nI si))]) hx hb dL_law_1042 hl (by decide) rfl (fun ls hl => ?_)
  refine lv_aload_n hx hb dL_law_1044 rfl (lv_at hl 3 rfl) ?_
  refine lv_aload_n hx hb dL_law_1045 rfl (lv_at hl 1 rfl) ?_
  refine lv_iload hx hb dL_law_1046 (lv_at hl 6 rfl) ?_
  refine lv_iconst (v := 1) hx hb dL_law_1048 (by decide) ?_
  refine lv_iadd hx hb dL_law_1049 ?_
  rw [show nI si + 1 = nI (si + 1) from nI_add si 1]
  refine va_sld hx hb hXs hbl hbA hw.2.2.2 (vp_in_nI (show si + 1 < Ls by omega) (by omega)) dL_law_1050 ?_
  rw [nI_clamp (show si + 1 < 2 ^ 31 by omega)]
  rw [hj1]
  refine kV_D (C := RX7) (T := TX7) (N := 31) (As := [.int (nI 3)]) (rest := []) ⟨hx, hb, hml, hown, hts⟩ (c_X7_told_3 l G dA L f1 ad (nl + 1) nb q qk ((x.1).1) ((x.1).2.1) ((x.1).2.2.1) ((x.1).2.2.2) ((x.2.1).1) ((x.2.1).2) x.2.2.2.2.2 tt.1 ((x.2.2.2.2.1).1) ((x.2.2.2.2.1).2.1) thr pa bad num RA RB TH DE KI WE NX LI LM KE TX BW TI KV DM f1  hC hX3 ) (cwV 1 hts gL_law_X7_told rfl rfl rfl (by decide +kernel) ⟨Nat.le_of_ble_eq_true rfl, Nat.le_of_ble_eq_true rfl⟩) hw hA (hC.m (by decide)) hX3.o rfl rfl hl.1 rfl (Nat.le_of_ble_eq_true rfl) dL_law_1051 ⟨hc1, hs1⟩ (fun r5 f4 H locs hp hw => ?_)
  obtain ⟨e1, hp⟩ := hp
  rw [e1]
  have hX2 : MX ad dA (nl + 1) nb ((x.1).1) ((x.1).2.1) ((x.1).2.2.1) ((x.1).2.2.2) ((x.2.1).1) ((x.2.1).2) x.2.2.2.2.2 tt.1 ((x.2.2.2.2.1).1) ((x.2.2.2.2.1).2.1) 0 pa bad num RA RB TH DE KI WE NX LI LM KE TX BW TI KV DM f1 f4 := hp
  refine lv_dstore (lv' := [(7, .double x.1.2.2.2), (6, .int 0), (0, .ref b), (1, .ref (ad 0)), (2, .ref (ad 16)), (3, .ref (ad 32)), (4, .ref (ad 33)), (5, .int (nI si))]) hx hb dL_law_1054 hl (by decide) rfl (fun ls hl => ?_)
  refine lv_aload_n hx hb dL_law_1056 rfl (lv_at hl 4 rfl) ?_
  refine kV_I (C := RX7) (T := TX7) (N := 31) (As := []) (rest := []) ⟨hx, hb, hml, hown, hts⟩ (c_X7_thrown l G dA L f4 ad (nl + 1) nb q qk ((x.1).1) ((x.1).2.1) ((x.1).2.2.1) ((x.1).2.2.2) ((x.2.1).1) ((x.2.1).2) x.2.2.2.2.2 tt.1 ((x.2.2.2.2.1).1) ((x.2.2.2.2.1).2.1) 0 pa bad num RA RB TH DE KI WE NX LI LM KE TX BW TI KV DM f1 hC hX2) (cwV 0 hts gL_law_X7_thrown rfl rfl rfl (by decide +kernel) ⟨Nat.le_of_ble_eq_true rfl, Nat.le_of_ble_eq_true rfl⟩) hw hA (hC.m (by decide)) hX2.o rfl rfl hl.1 rfl (Nat.le_of_ble_eq_true rfl) dL_law_1057 ⟨hc1, hs1⟩ (fun r6 f7 H locs hp hw => ?_)
  obtain ⟨e1, e2⟩ := hp
  rw [e2] at hw
  rw [e1]
  refine lv_iload hx hb dL_law_1060 (lv_at hl 1 rfl) ?_
  refine lv_icmp_eq (tgt := 1067) hx hb dL_law_1062 (by decide) (fun _ => ?_) (fun c9 => absurd rfl c9)
  refine lv_iload hx hb dL_law_1067 (lv_at hl 1 rfl) ?_
  refine lv_if_ne (tgt := 1104) hx hb dL_law_1069 (by decide) (fun c9 => absurd c9 (fun h7 => h7 rfl)) (fun _ => ?_)
  refine lv_aload hx hb dL_law_1072 (lv_at hl 6 rfl) ?_
  refine lv_iconst (v := 0) hx hb dL_law_1074 (by decide) ?_
  refine wld_d hx hb hw (hC.m (by decide)) ((hX2.fr (by omega) (by omega)).trans hown9) 0 (by decide) (by decide) nI_0.symm dL_law_1075 ?_
  rw [show ((vf_upd od 0 x.1.2.2.2)) 0 = x.1.2.2.2 from vfD_s]
  refine lv_dload hx hb dL_law_1076 (lv_at hl 0 rfl) ?_
  refine lv_dcmp hx hb dL_law_1078 ?_
  refine lv_if_eq (tgt := 1104) hx hb dL_law_1079 (by decide) (fun c1079 => ?_) (fun c1079 => ?_)
  · refine lv_goto (tgt := 1177) hx hb dL_law_1104 (by decide) ?_
    exact kk9 x kk tt f4 _ _ ls (LwI.of (x := x) (kk := kk) (tt := tt) hR1 ⟨_, _, _, _, _, _, _, _, _, _, _, _, _, _, _, _, _, _, hX2, hMk, hMb, hMw, hMt, hMp⟩ ⟨_, hoth⟩ ⟨_, hown9⟩ hG htt hTT) (Nat.le_add_right _ _) hw (lv_sub hl [2, 3, 4, 5, 6, 7] rfl)
  · refine lv_aload hx hb dL_law_1082 (lv_at hl 6 rfl) ?_
    refine lv_iconst (v := 0) hx hb dL_law_1084 (by decide) ?_
    refine wld_d hx hb hw (hC.m (by decide)) ((hX2.fr (by omega) (by omega)).trans hown9) 0 (by decide) (by decide) nI_0.symm dL_law_1085 ?_
    rw [show ((vf_upd od 0 x.1.2.2.2)) 0 = x.1.2.2.2 from vfD_s]
    refine lv_aload hx hb dL_law_1086 (lv_at hl 6 rfl) ?_
    refine lv_iconst (v := 0) hx hb dL_law_1088 (by decide) ?_
    refine wld_d hx hb hw (hC.m (by decide)) ((hX2.fr (by omega) (by omega)).trans hown9) 0 (by decide) (by decide) nI_0.symm dL_law_1089 ?_
    rw [show ((vf_upd od 0 x.1.2.2.2)) 0 = x.1.2.2.2 from vfD_s]
    refine lv_dcmp hx hb dL_law_1090 ?_
    refine lv_if_eq (tgt := 1102) hx hb dL_law_1091 (by decide) (fun c9 => absurd c9 c1079) (fun _ => ?_)
    refine lv_dload hx hb dL_law_1094 (lv_at hl 0 rfl) ?_
    refine lv_dload hx hb dL_law_1096 (lv_at hl 0 rfl) ?_
    refine lv_dcmp hx hb dL_law_1098 ?_
    refine lv_if_ne (tgt := 1104) hx hb dL_law_1099 (by decide) (fun _ => ?_) (fun c9 => absurd c9 c1079)
    refine lv_goto (tgt := 1177) hx hb dL_law_1104 (by decide) ?_
    exact kk9 x kk tt f4 _ _ ls (LwI.of (x := x) (kk := kk) (tt := tt) hR1 ⟨_, _, _, _, _, _, _, _, _, _, _, _, _, _, _, _, _, _, hX2, hMk, hMb, hMw, hMt, hMp⟩ ⟨_, hoth⟩ ⟨_, hown9⟩ hG htt hTT) (Nat.le_add_right _ _) hw (lv_sub hl [2, 3, 4, 5, 6, 7] rfl)

set_option maxHeartbeats 4000000 in
set_option maxRecDepth 100000 in
theorem k_told_04 {p : Program} {l : Launch} {e : Env} {s : State} {m : MethodId} {below : List Frame} {meth : Method} {c : Code} {G : va_G} {dA : Nat → ClassId} {b Ls si : Nat} {xs : Nat → Int32} {sa ad : Nat → Nat} {L : List Nat} {nl nb : Nat} {q qk : Nat → Option Nat} {x : sR} {kk : Nat → UInt64 × UInt64} {tt : sT} {f : Nat → va_E} {H : Heap} {locs : List Loc} {ls : Array Slot} {cells slots : Nat}  (hLC : LC p l s m c meth b Ls xs G dA sa ad L nl nb q qk) (hsi : si + 5 ≤ Ls) (hc1 : cells + 1 ≤ room_1.cells) (hs1 : slots + 6 ≤ room_1.slots) (hLI : LwI ad dA nl nb q qk x kk tt f) (hhr : x.2.2.2.2.2 < 2 ^ 29) (hw : ww G dA (fun z : Nat => s.heap.size ≤ z) s L f H locs) (hl : lv_has ls 10 [(0, .ref b), (1, .ref (ad 0)), (2, .ref (ad 16)), (3, .ref (ad 32)), (4, .ref (ad 33)), (5, .int (nI si))]) (hj1 : xs (si + 1) = nI 4)
    (kk9 : ∀ (x2 : sR) (kk2 : Nat → UInt64 × UInt64) (tt2 : sT) (f2 : Nat → va_E) (H : Heap) (locs : List Loc) (ls : Array Slot), LwI ad dA nl nb q qk x2 kk2 tt2 f2 → x2.2.2.2.2.2 ≤ x.2.2.2.2.2 + 100 → ww G dA (fun z : Nat => s.heap.size ≤ z) s L f2 H locs → lv_has ls 10 [(0, .ref b), (1, .ref (ad 0)), (2, .ref (ad 16)), (3, .ref (ad 32)), (4, .ref (ad 33)), (5, .int (nI si))] → W p l e room_1 s m #[Value.ref b] below meth c H locs (cells + 1) (slots + 6) (lw_Z below #[Value.ref b] s) (F0 m 1177 ls [])) : W p l e room_1 s m #[Value.ref b] below meth c H locs cells slots (lw_Z below #[Value.ref b] s) (F0 m 1030 ls []) := by
  obtain ⟨hx, hb, hml, hown, hts, hXs, hbl, hlt, hE, hC, hLs, hret, hlocks⟩ := hLC
  have hA : ∀ z : Nat, s.heap.size ≤ z → (fun z : Nat => s.heap.size ≤ z) z := fun _ h => h
  have hbA : ¬ (fun z : Nat => s.heap.size ≤ z) b := Nat.not_le.mpr hbl
  obtain ⟨hR, ⟨thr, hM⟩, ⟨o, ho⟩, ⟨od, hd⟩, hG, htt, hTT⟩ := hLI
  obtain ⟨pa, bad, num, RA, RB, TH, DE, KI, WE, NX, LI, LM, KE, TX, BW, TI, KV, DM, hX, hMk, hMb, hMw, hMt, hMp⟩ := hM
  refine lv_aload_n hx hb dL_law_1030 rfl (lv_at hl 1 rfl) ?_
  refine lv_aload_n hx hb dL_law_1031 rfl (lv_at hl 0 rfl) ?_
  refine lv_iload hx hb dL_law_1032 (lv_at hl 5 rfl) ?_
  refine lv_iconst (v := 1) hx hb dL_law_1034 (by decide) ?_
  refine lv_iadd hx hb dL_law_1035 ?_
  rw [show nI si + 1 = nI (si + 1) from nI_add si 1]
  refine va_sld hx hb hXs hbl hbA hw.2.2.2 (vp_in_nI (show si + 1 < Ls by omega) (by omega)) dL_law_1036 ?_
  rw [nI_clamp (show si + 1 < 2 ^ 31 by omega)]
  rw [hj1]
  refine lv_aload hx hb dL_law_1037 (lv_at hl 4 rfl) ?_
  refine kH (As := [.ref (ad 0), .int (nI 4), .ref (ad 33)]) (rest := []) ⟨hx, hb, hml, hown, hts⟩ (h_c_X6_told_4 l hlt G dA sa L f ad (nl + 1) nb q qk x.1 x.2.1 x.2.2.1 x.2.2.2.1 kk tt x.2.2.2.2.1 x.2.2.2.2.2  hC hR  od hd) (vx_cwSW 3 hts gL_law_L_told rfl rfl rfl (by decide +kernel) ⟨Nat.le_of_ble_eq_true rfl, Nat.le_of_ble_eq_true rfl⟩) hw hE hA rfl hl.1 rfl (Nat.le_of_ble_eq_true rfl) dL_law_1039 ⟨hc1, hs1⟩ (fun r2 f1 H locs hp hw => ?_)
  obtain ⟨e1, hp⟩ := hp
  rw [e1]
  have ef : f1 = va_up f (ad 33) (aD (dA 1) 1 (vf_upd od 0 x.2.1.1)) := hp
  have hR1 : RC ad dA (nl + 1) nb q qk x.1 x.2.1 x.2.2.1 x.2.2.2.1 kk tt x.2.2.2.2.1 x.2.2.2.2.2 f1 f1 := hR.mv (fun i hi h => by rw [ef]; exact va_up_ne _ _ (hC.ne hi (by omega) (by omega))) (fun _ _ _ => rfl)
  have hX3 : MX ad dA (nl + 1) nb ((x.1).1) ((x.1).2.1) ((x.1).2.2.1) ((x.1).2.2.2) ((x.2.1).1) ((x.2.1).2) x.2.2.2.2.2 tt.1 ((x.2.2.2.2.1).1) ((x.2.2.2.2.1).2.1) thr pa bad num RA RB TH DE KI WE NX LI LM KE TX BW TI KV DM f1 f1 := hX.mv (fun i h1 h2 => by rw [ef]; exact va_up_ne _ _ (hC.ne (by omega) (by omega) (by omega))) (fun _ _ _ => rfl)
  have hoth : f1 (ad 32) = aL (dA 4) 1 o := by rw [ef]; exact (va_up_ne _ _ (hC.ne (by omega) (by omega) (by decide))).trans ho
  have hown9 : f1 (ad 33) = aD (dA 1) 1 (vf_upd od 0 x.2.1.1) := by rw [ef]; exact va_up_self _ _ _
  refine lv_istore (lv' := [(6, .int 0), (0, .ref b), (1, .ref (ad 0)), (2, .ref (ad 16)), (3, .ref (ad 32)), (4, .ref (ad 33)), (5, .int (nI si))]) hx hb dL_law_1042 hl (by decide) rfl (fun ls hl => ?_)
  refine lv_aload_n hx hb dL_law_1044 rfl (lv_at hl 3 rfl) ?_
  refine lv_aload_n hx hb dL_law_1045 rfl (lv_at hl 1 rfl) ?_
  refine lv_iload hx hb dL_law_1046 (lv_at hl 6 rfl) ?_
  refine lv_iconst (v := 1) hx hb dL_law_1048 (by decide) ?_
  refine lv_iadd hx hb dL_law_1049 ?_
  rw [show nI si + 1 = nI (si + 1) from nI_add si 1]
  refine va_sld hx hb hXs hbl hbA hw.2.2.2 (vp_in_nI (show si + 1 < Ls by omega) (by omega)) dL_law_1050 ?_
  rw [nI_clamp (show si + 1 < 2 ^ 31 by omega)]
  rw [hj1]
  refine kV_D (C := RX7) (T := TX7) (N := 31) (As := [.int (nI 4)]) (rest := []) ⟨hx, hb, hml, hown, hts⟩ (c_X7_told_4 l G dA L f1 ad (nl + 1) nb q qk ((x.1).1) ((x.1).2.1) ((x.1).2.2.1) ((x.1).2.2.2) ((x.2.1).1) ((x.2.1).2) x.2.2.2.2.2 tt.1 ((x.2.2.2.2.1).1) ((x.2.2.2.2.1).2.1) thr pa bad num RA RB TH DE KI WE NX LI LM KE TX BW TI KV DM f1  hC hX3 ) (cwV 1 hts gL_law_X7_told rfl rfl rfl (by decide +kernel) ⟨Nat.le_of_ble_eq_true rfl, Nat.le_of_ble_eq_true rfl⟩) hw hA (hC.m (by decide)) hX3.o rfl rfl hl.1 rfl (Nat.le_of_ble_eq_true rfl) dL_law_1051 ⟨hc1, hs1⟩ (fun r5 f4 H locs hp hw => ?_)
  obtain ⟨e1, hp⟩ := hp
  rw [e1]
  have hX2 : MX ad dA (nl + 1) nb ((x.1).1) ((x.1).2.1) ((x.1).2.2.1) ((x.1).2.2.2) ((x.2.1).1) ((x.2.1).2) x.2.2.2.2.2 tt.1 ((x.2.2.2.2.1).1) ((x.2.2.2.2.1).2.1) 0 pa bad num RA RB TH DE KI WE NX LI LM KE TX BW TI KV DM f1 f4 := hp
  refine lv_dstore (lv' := [(7, .double x.2.1.1), (6, .int 0), (0, .ref b), (1, .ref (ad 0)), (2, .ref (ad 16)), (3, .ref (ad 32)), (4, .ref (ad 33)), (5, .int (nI si))]) hx hb dL_law_1054 hl (by decide) rfl (fun ls hl => ?_)
  refine lv_aload_n hx hb dL_law_1056 rfl (lv_at hl 4 rfl) ?_
  refine kV_I (C := RX7) (T := TX7) (N := 31) (As := []) (rest := []) ⟨hx, hb, hml, hown, hts⟩ (c_X7_thrown l G dA L f4 ad (nl + 1) nb q qk ((x.1).1) ((x.1).2.1) ((x.1).2.2.1) ((x.1).2.2.2) ((x.2.1).1) ((x.2.1).2) x.2.2.2.2.2 tt.1 ((x.2.2.2.2.1).1) ((x.2.2.2.2.1).2.1) 0 pa bad num RA RB TH DE KI WE NX LI LM KE TX BW TI KV DM f1 hC hX2) (cwV 0 hts gL_law_X7_thrown rfl rfl rfl (by decide +kernel) ⟨Nat.le_of_ble_eq_true rfl, Nat.le_of_ble_eq_true rfl⟩) hw hA (hC.m (by decide)) hX2.o rfl rfl hl.1 rfl (Nat.le_of_ble_eq_true rfl) dL_law_1057 ⟨hc1, hs1⟩ (fun r6 f7 H locs hp hw => ?_)
  obtain ⟨e1, e2⟩ := hp
  rw [e2] at hw
  rw [e1]
  refine lv_iload hx hb dL_law_1060 (lv_at hl 1 rfl) ?_
  refine lv_icmp_eq (tgt := 1067) hx hb dL_law_1062 (by decide) (fun _ => ?_) (fun c9 => absurd rfl c9)
  refine lv_iload hx hb dL_law_1067 (lv_at hl 1 rfl) ?_
  refine lv_if_ne (tgt := 1104) hx hb dL_law_1069 (by decide) (fun c9 => absurd c9 (fun h7 => h7 rfl)) (fun _ => ?_)
  refine lv_aload hx hb dL_law_1072 (lv_at hl 6 rfl) ?_
  refine lv_iconst (v := 0) hx hb dL_law_1074 (by decide) ?_
  refine wld_d hx hb hw (hC.m (by decide)) ((hX2.fr (by omega) (by omega)).trans hown9) 0 (by decide) (by decide) nI_0.symm dL_law_1075 ?_
  rw [show ((vf_upd od 0 x.2.1.1)) 0 = x.2.1.1 from vfD_s]
  refine lv_dload hx hb dL_law_1076 (lv_at hl 0 rfl) ?_
  refine lv_dcmp hx hb dL_law_1078 ?_
  refine lv_if_eq (tgt := 1104) hx hb dL_law_1079 (by decide) (fun c1079 => ?_) (fun c1079 => ?_)
  · refine lv_goto (tgt := 1177) hx hb dL_law_1104 (by decide) ?_
    exact kk9 x kk tt f4 _ _ ls (LwI.of (x := x) (kk := kk) (tt := tt) hR1 ⟨_, _, _, _, _, _, _, _, _, _, _, _, _, _, _, _, _, _, hX2, hMk, hMb, hMw, hMt, hMp⟩ ⟨_, hoth⟩ ⟨_, hown9⟩ hG htt hTT) (Nat.le_add_right _ _) hw (lv_sub hl [2, 3, 4, 5, 6, 7] rfl)
  · refine lv_aload hx hb dL_law_1082 (lv_at hl 6 rfl) ?_
    refine lv_iconst (v := 0) hx hb dL_law_1084 (by decide) ?_
    refine wld_d hx hb hw (hC.m (by decide)) ((hX2.fr (by omega) (by omega)).trans hown9) 0 (by decide) (by decide) nI_0.symm dL_law_1085 ?_
    rw [show ((vf_upd od 0 x.2.1.1)) 0 = x.2.1.1 from vfD_s]
    refine lv_aload hx hb dL_law_1086 (lv_at hl 6 rfl) ?_
    refine lv_iconst (v := 0) hx hb dL_law_1088 (by decide) ?_
    refine wld_d hx hb hw (hC.m (by decide)) ((hX2.fr (by omega) (by omega)).trans hown9) 0 (by decide) (by decide) nI_0.symm dL_law_1089 ?_
    rw [show ((vf_upd od 0 x.2.1.1)) 0 = x.2.1.1 from vfD_s]
    refine lv_dcmp hx hb dL_law_1090 ?_
    refine lv_if_eq (tgt := 1102) hx hb dL_law_1091 (by decide) (fun c9 => absurd c9 c1079) (fun _ => ?_)
    refine lv_dload hx hb dL_law_1094 (lv_at hl 0 rfl) ?_
    refine lv_dload hx hb dL_law_1096 (lv_at hl 0 rfl) ?_
    refine lv_dcmp hx hb dL_law_1098 ?_
    refine lv_if_ne (tgt := 1104) hx hb dL_law_1099 (by decide) (fun _ => ?_) (fun c9 => absurd c9 c1079)
    refine lv_goto (tgt := 1177) hx hb dL_law_1104 (by decide) ?_
    exact kk9 x kk tt f4 _ _ ls (LwI.of (x := x) (kk := kk) (tt := tt) hR1 ⟨_, _, _, _, _, _, _, _, _, _, _, _, _, _, _, _, _, _, hX2, hMk, hMb, hMw, hMt, hMp⟩ ⟨_, hoth⟩ ⟨_, hown9⟩ hG htt hTT) (Nat.le_add_right _ _) hw (lv_sub hl [2, 3, 4, 5, 6, 7] rfl)

set_option maxHeartbeats 4000000 in
set_option maxRecDepth 100000 in
theorem k_told_1 {p : Program} {l : Launch} {e : Env} {s : State} {m : MethodId} {below : List Frame} {meth : Method} {c : Code} {G : va_G} {dA : Nat → ClassId} {b Ls si : Nat} {xs : Nat → Int32} {sa ad : Nat → Nat} {L : List Nat} {nl nb : Nat} {q qk : Nat → Option Nat} {x : sR} {kk : Nat → UInt64 × UInt64} {tt : sT} {f : Nat → va_E} {H : Heap} {locs : List Loc} {ls : Array Slot} {cells slots : Nat}  (hLC : LC p l s m c meth b Ls xs G dA sa ad L nl nb q qk) (hsi : si + 5 ≤ Ls) (hc1 : cells + 1 ≤ room_1.cells) (hs1 : slots + 6 ≤ room_1.slots) (hLI : LwI ad dA nl nb q qk x kk tt f) (hhr : x.2.2.2.2.2 < 2 ^ 29) (hw : ww G dA (fun z : Nat => s.heap.size ≤ z) s L f H locs) (hl : lv_has ls 10 [(0, .ref b), (1, .ref (ad 0)), (2, .ref (ad 16)), (3, .ref (ad 32)), (4, .ref (ad 33)), (5, .int (nI si))]) (hbad : xs (si + 1) < 0 ∨ 4 < xs (si + 1))
    (kk9 : ∀ (x2 : sR) (kk2 : Nat → UInt64 × UInt64) (tt2 : sT) (f2 : Nat → va_E) (H : Heap) (locs : List Loc) (ls : Array Slot), LwI ad dA nl nb q qk x2 kk2 tt2 f2 → x2.2.2.2.2.2 ≤ x.2.2.2.2.2 + 100 → ww G dA (fun z : Nat => s.heap.size ≤ z) s L f2 H locs → lv_has ls 10 [(0, .ref b), (1, .ref (ad 0)), (2, .ref (ad 16)), (3, .ref (ad 32)), (4, .ref (ad 33)), (5, .int (nI si))] → W p l e room_1 s m #[Value.ref b] below meth c H locs (cells + 1) (slots + 6) (lw_Z below #[Value.ref b] s) (F0 m 1177 ls [])) : W p l e room_1 s m #[Value.ref b] below meth c H locs cells slots (lw_Z below #[Value.ref b] s) (F0 m 1030 ls []) := by
  obtain ⟨hx, hb, hml, hown, hts, hXs, hbl, hlt, hE, hC, hLs, hret, hlocks⟩ := hLC
  have hA : ∀ z : Nat, s.heap.size ≤ z → (fun z : Nat => s.heap.size ≤ z) z := fun _ h => h
  have hbA : ¬ (fun z : Nat => s.heap.size ≤ z) b := Nat.not_le.mpr hbl
  obtain ⟨hR, ⟨thr, hM⟩, ⟨o, ho⟩, ⟨od, hd⟩, hG, htt, hTT⟩ := hLI
  obtain ⟨pa, bad, num, RA, RB, TH, DE, KI, WE, NX, LI, LM, KE, TX, BW, TI, KV, DM, hX, hMk, hMb, hMw, hMt, hMp⟩ := hM
  refine lv_aload_n hx hb dL_law_1030 rfl (lv_at hl 1 rfl) ?_
  refine lv_aload_n hx hb dL_law_1031 rfl (lv_at hl 0 rfl) ?_
  refine lv_iload hx hb dL_law_1032 (lv_at hl 5 rfl) ?_
  refine lv_iconst (v := 1) hx hb dL_law_1034 (by decide) ?_
  refine lv_iadd hx hb dL_law_1035 ?_
  rw [show nI si + 1 = nI (si + 1) from nI_add si 1]
  refine va_sld hx hb hXs hbl hbA hw.2.2.2 (vp_in_nI (show si + 1 < Ls by omega) (by omega)) dL_law_1036 ?_
  rw [nI_clamp (show si + 1 < 2 ^ 31 by omega)]
  refine lv_aload hx hb dL_law_1037 (lv_at hl 4 rfl) ?_
  refine kH (As := [.ref (ad 0), .int (xs (si + 1)), .ref (ad 33)]) (rest := []) ⟨hx, hb, hml, hown, hts⟩ (h_x1_X6_told l hlt G dA sa L f ad (nl + 1) nb q qk x.1 x.2.1 x.2.2.1 x.2.2.2.1 kk tt x.2.2.2.2.1 x.2.2.2.2.2 (xs (si + 1)) hC hR hbad od hd) (vx_cwSW 3 hts gL_law_L_told rfl rfl rfl (by decide +kernel) ⟨Nat.le_of_ble_eq_true rfl, Nat.le_of_ble_eq_true rfl⟩) hw hE hA rfl hl.1 rfl (Nat.le_of_ble_eq_true rfl) dL_law_1039 ⟨hc1, hs1⟩ (fun r2 f1 H locs hp hw => ?_)
  obtain ⟨e1, e2⟩ := hp
  rw [e2] at hw
  rw [e1]
  refine lv_istore (lv' := [(6, .int 1), (0, .ref b), (1, .ref (ad 0)), (2, .ref (ad 16)), (3, .ref (ad 32)), (4, .ref (ad 33)), (5, .int (nI si))]) hx hb dL_law_1042 hl (by decide) rfl (fun ls hl => ?_)
  refine lv_aload_n hx hb dL_law_1044 rfl (lv_at hl 3 rfl) ?_
  refine lv_aload_n hx hb dL_law_1045 rfl (lv_at hl 1 rfl) ?_
  refine lv_iload hx hb dL_law_1046 (lv_at hl 6 rfl) ?_
  refine lv_iconst (v := 1) hx hb dL_law_1048 (by decide) ?_
  refine lv_iadd hx hb dL_law_1049 ?_
  rw [show nI si + 1 = nI (si + 1) from nI_add si 1]
  refine va_sld hx hb hXs hbl hbA hw.2.2.2 (vp_in_nI (show si + 1 < Ls by omega) (by omega)) dL_law_1050 ?_
  rw [nI_clamp (show si + 1 < 2 ^ 31 by omega)]
  refine kV_D (C := RX7) (T := TX7) (N := 31) (As := [.int (xs (si + 1))]) (rest := []) ⟨hx, hb, hml, hown, hts⟩ (t1_X7_told l G dA L f ad (nl + 1) nb q qk ((x.1).1) ((x.1).2.1) ((x.1).2.2.1) ((x.1).2.2.2) ((x.2.1).1) ((x.2.1).2) x.2.2.2.2.2 tt.1 ((x.2.2.2.2.1).1) ((x.2.2.2.2.1).2.1) thr pa bad num RA RB TH DE KI WE NX LI LM KE TX BW TI KV DM f (xs (si + 1)) hC hX hbad) (cwV 1 hts gL_law_X7_told rfl rfl rfl (by decide +kernel) ⟨Nat.le_of_ble_eq_true rfl, Nat.le_of_ble_eq_true rfl⟩) hw hA (hC.m (by decide)) hX.o rfl rfl hl.1 rfl (Nat.le_of_ble_eq_true rfl) dL_law_1051 ⟨hc1, hs1⟩ (fun r4 f3 H locs hp hw => ?_)
  have hX2 : MX ad dA (nl + 1) nb ((x.1).1) ((x.1).2.1) ((x.1).2.2.1) ((x.1).2.2.2) ((x.2.1).1) ((x.2.1).2) x.2.2.2.2.2 tt.1 ((x.2.2.2.2.1).1) ((x.2.2.2.2.1).2.1) 1 pa bad num RA RB TH DE KI WE NX LI LM KE TX BW TI KV DM f f3 := hp
  refine lv_dstore (lv' := [(7, .double r4), (6, .int 1), (0, .ref b), (1, .ref (ad 0)), (2, .ref (ad 16)), (3, .ref (ad 32)), (4, .ref (ad 33)), (5, .int (nI si))]) hx hb dL_law_1054 hl (by decide) rfl (fun ls hl => ?_)
  refine lv_aload_n hx hb dL_law_1056 rfl (lv_at hl 4 rfl) ?_
  refine kV_I (C := RX7) (T := TX7) (N := 31) (As := []) (rest := []) ⟨hx, hb, hml, hown, hts⟩ (c_X7_thrown l G dA L f3 ad (nl + 1) nb q qk ((x.1).1) ((x.1).2.1) ((x.1).2.2.1) ((x.1).2.2.2) ((x.2.1).1) ((x.2.1).2) x.2.2.2.2.2 tt.1 ((x.2.2.2.2.1).1) ((x.2.2.2.2.1).2.1) 1 pa bad num RA RB TH DE KI WE NX LI LM KE TX BW TI KV DM f hC hX2) (cwV 0 hts gL_law_X7_thrown rfl rfl rfl (by decide +kernel) ⟨Nat.le_of_ble_eq_true rfl, Nat.le_of_ble_eq_true rfl⟩) hw hA (hC.m (by decide)) hX2.o rfl rfl hl.1 rfl (Nat.le_of_ble_eq_true rfl) dL_law_1057 ⟨hc1, hs1⟩ (fun r5 f6 H locs hp hw => ?_)
  obtain ⟨e1, e2⟩ := hp
  rw [e2] at hw
  rw [e1]
  refine lv_iload hx hb dL_law_1060 (lv_at hl 1 rfl) ?_
  refine lv_icmp_eq (tgt := 1067) hx hb dL_law_1062 (by decide) (fun _ => ?_) (fun c9 => absurd rfl c9)
  refine lv_iload hx hb dL_law_1067 (lv_at hl 1 rfl) ?_
  refine lv_if_ne (tgt := 1104) hx hb dL_law_1069 (by decide) (fun _ => ?_) (fun c9 => absurd c9 (by decide))
  refine lv_goto (tgt := 1177) hx hb dL_law_1104 (by decide) ?_
  exact kk9 x kk tt f3 _ _ ls (LwI.of (x := x) (kk := kk) (tt := tt) hR ⟨_, _, _, _, _, _, _, _, _, _, _, _, _, _, _, _, _, _, hX2, hMk, hMb, hMw, hMt, hMp⟩ ⟨_, ho⟩ ⟨_, hd⟩ hG htt hTT) (Nat.le_add_right _ _) hw (lv_sub hl [2, 3, 4, 5, 6, 7] rfl)

set_option maxHeartbeats 4000000 in
set_option maxRecDepth 100000 in
theorem k_count_00 {p : Program} {l : Launch} {e : Env} {s : State} {m : MethodId} {below : List Frame} {meth : Method} {c : Code} {G : va_G} {dA : Nat → ClassId} {b Ls si : Nat} {xs : Nat → Int32} {sa ad : Nat → Nat} {L : List Nat} {nl nb : Nat} {q qk : Nat → Option Nat} {x : sR} {kk : Nat → UInt64 × UInt64} {tt : sT} {f : Nat → va_E} {H : Heap} {locs : List Loc} {ls : Array Slot} {cells slots : Nat}  (hLC : LC p l s m c meth b Ls xs G dA sa ad L nl nb q qk) (hsi : si + 5 ≤ Ls) (hc1 : cells + 1 ≤ room_1.cells) (hs1 : slots + 6 ≤ room_1.slots) (hLI : LwI ad dA nl nb q qk x kk tt f) (hhr : x.2.2.2.2.2 < 2 ^ 29) (hw : ww G dA (fun z : Nat => s.heap.size ≤ z) s L f H locs) (hl : lv_has ls 10 [(0, .ref b), (1, .ref (ad 0)), (2, .ref (ad 16)), (3, .ref (ad 32)), (4, .ref (ad 33)), (5, .int (nI si))]) (hj1 : xs (si + 1) = nI 0)
    (kk9 : ∀ (x2 : sR) (kk2 : Nat → UInt64 × UInt64) (tt2 : sT) (f2 : Nat → va_E) (H : Heap) (locs : List Loc) (ls : Array Slot), LwI ad dA nl nb q qk x2 kk2 tt2 f2 → x2.2.2.2.2.2 ≤ x.2.2.2.2.2 + 100 → ww G dA (fun z : Nat => s.heap.size ≤ z) s L f2 H locs → lv_has ls 10 [(0, .ref b), (1, .ref (ad 0)), (2, .ref (ad 16)), (3, .ref (ad 32)), (4, .ref (ad 33)), (5, .int (nI si))] → W p l e room_1 s m #[Value.ref b] below meth c H locs (cells + 1) (slots + 6) (lw_Z below #[Value.ref b] s) (F0 m 1177 ls [])) : W p l e room_1 s m #[Value.ref b] below meth c H locs cells slots (lw_Z below #[Value.ref b] s) (F0 m 1121 ls []) := by
  obtain ⟨hx, hb, hml, hown, hts, hXs, hbl, hlt, hE, hC, hLs, hret, hlocks⟩ := hLC
  have hA : ∀ z : Nat, s.heap.size ≤ z → (fun z : Nat => s.heap.size ≤ z) z := fun _ h => h
  have hbA : ¬ (fun z : Nat => s.heap.size ≤ z) b := Nat.not_le.mpr hbl
  obtain ⟨hR, ⟨thr, hM⟩, ⟨o, ho⟩, ⟨od, hd⟩, hG, htt, hTT⟩ := hLI
  obtain ⟨pa, bad, num, RA, RB, TH, DE, KI, WE, NX, LI, LM, KE, TX, BW, TI, KV, DM, hX, hMk, hMb, hMw, hMt, hMp⟩ := hM
  refine lv_aload_n hx hb dL_law_1121 rfl (lv_at hl 1 rfl) ?_
  refine lv_aload_n hx hb dL_law_1122 rfl (lv_at hl 0 rfl) ?_
  refine lv_iload hx hb dL_law_1123 (lv_at hl 5 rfl) ?_
  refine lv_iconst (v := 1) hx hb dL_law_1125 (by decide) ?_
  refine lv_iadd hx hb dL_law_1126 ?_
  rw [show nI si + 1 = nI (si + 1) from nI_add si 1]
  refine va_sld hx hb hXs hbl hbA hw.2.2.2 (vp_in_nI (show si + 1 < Ls by omega) (by omega)) dL_law_1127 ?_
  rw [nI_clamp (show si + 1 < 2 ^ 31 by omega)]
  rw [hj1]
  refine lv_aload_n hx hb dL_law_1128 rfl (lv_at hl 3 rfl) ?_
  refine kH (As := [.ref (ad 0), .int (nI 0), .ref (ad 32)]) (rest := []) ⟨hx, hb, hml, hown, hts⟩ (h_c_X6_count_0 l hlt G dA sa L f ad (nl + 1) nb q qk x.1 x.2.1 x.2.2.1 x.2.2.2.1 kk tt x.2.2.2.2.1 x.2.2.2.2.2  hC hR  o ho) (vx_cwSW 3 hts gL_law_L_count rfl rfl rfl (by decide +kernel) ⟨Nat.le_of_ble_eq_true rfl, Nat.le_of_ble_eq_true rfl⟩) hw hE hA rfl hl.1 rfl (Nat.le_of_ble_eq_true rfl) dL_law_1129 ⟨hc1, hs1⟩ (fun r2 f1 H locs hp hw => ?_)
  obtain ⟨e1, hp⟩ := hp
  rw [e1]
  have ef : f1 = va_up f (ad 32) (aL (dA 4) 1 (vp_updL o 0 ((nI x.2.2.2.2.2).toInt64))) := hp
  have hR1 : RC ad dA (nl + 1) nb q qk x.1 x.2.1 x.2.2.1 x.2.2.2.1 kk tt x.2.2.2.2.1 x.2.2.2.2.2 f1 f1 := hR.mv (fun i hi h => by rw [ef]; exact va_up_ne _ _ (hC.ne hi (by omega) (by omega))) (fun _ _ _ => rfl)
  have hX3 : MX ad dA (nl + 1) nb ((x.1).1) ((x.1).2.1) ((x.1).2.2.1) ((x.1).2.2.2) ((x.2.1).1) ((x.2.1).2) x.2.2.2.2.2 tt.1 ((x.2.2.2.2.1).1) ((x.2.2.2.2.1).2.1) thr pa bad num RA RB TH DE KI WE NX LI LM KE TX BW TI KV DM f1 f1 := hX.mv (fun i h1 h2 => by rw [ef]; exact va_up_ne _ _ (hC.ne (by omega) (by omega) (by omega))) (fun _ _ _ => rfl)
  have hoth : f1 (ad 33) = aD (dA 1) 1 od := by rw [ef]; exact (va_up_ne _ _ (hC.ne (by omega) (by omega) (by decide))).trans hd
  have hown9 : f1 (ad 32) = aL (dA 4) 1 (vp_updL o 0 ((nI x.2.2.2.2.2).toInt64)) := by rw [ef]; exact va_up_self _ _ _
  refine lv_istore (lv' := [(6, .int 0), (0, .ref b), (1, .ref (ad 0)), (2, .ref (ad 16)), (3, .ref (ad 32)), (4, .ref (ad 33)), (5, .int (nI si))]) hx hb dL_law_1132 hl (by decide) rfl (fun ls hl => ?_)
  refine lv_aload_n hx hb dL_law_1134 rfl (lv_at hl 3 rfl) ?_
  refine lv_aload_n hx hb dL_law_1135 rfl (lv_at hl 1 rfl) ?_
  refine lv_iload hx hb dL_law_1136 (lv_at hl 6 rfl) ?_
  refine lv_iconst (v := 1) hx hb dL_law_1138 (by decide) ?_
  refine lv_iadd hx hb dL_law_1139 ?_
  rw [show nI si + 1 = nI (si + 1) from nI_add si 1]
  refine va_sld hx hb hXs hbl hbA hw.2.2.2 (vp_in_nI (show si + 1 < Ls by omega) (by omega)) dL_law_1140 ?_
  rw [nI_clamp (show si + 1 < 2 ^ 31 by omega)]
  rw [hj1]
  refine kV_I (C := RX7) (T := TX7) (N := 31) (As := [.int (nI 0)]) (rest := []) ⟨hx, hb, hml, hown, hts⟩ (c_X7_count_0 l G dA L f1 ad (nl + 1) nb q qk ((x.1).1) ((x.1).2.1) ((x.1).2.2.1) ((x.1).2.2.2) ((x.2.1).1) ((x.2.1).2) x.2.2.2.2.2 tt.1 ((x.2.2.2.2.1).1) ((x.2.2.2.2.1).2.1) thr pa bad num RA RB TH DE KI WE NX LI LM KE TX BW TI KV DM f1  hC hX3 ) (cwV 1 hts gL_law_X7_count rfl rfl rfl (by decide +kernel) ⟨Nat.le_of_ble_eq_true rfl, Nat.le_of_ble_eq_true rfl⟩) hw hA (hC.m (by decide)) hX3.o rfl rfl hl.1 rfl (Nat.le_of_ble_eq_true rfl) dL_law_1141 ⟨hc1, hs1⟩ (fun r5 f4 H locs hp hw => ?_)
  obtain ⟨e1, hp⟩ := hp
  rw [e1]
  have hX2 : MX ad dA (nl + 1) nb ((x.1).1) ((x.1).2.1) ((x.1).2.2.1) ((x.1).2.2.2) ((x.2.1).1) ((x.2.1).2) x.2.2.2.2.2 tt.1 ((x.2.2.2.2.1).1) ((x.2.2.2.2.1).2.1) 0 pa bad num RA RB TH DE KI WE NX LI LM KE TX BW TI KV DM f1 f4 := hp
  refine lv_istore (lv' := [(7, .int (nI x.2.2.2.2.2)), (6, .int 0), (0, .ref b), (1, .ref (ad 0)), (2, .ref (ad 16)), (3, .ref (ad 32)), (4, .ref (ad 33)), (5, .int (nI si))]) hx hb dL_law_1144 hl (by decide) rfl (fun ls hl => ?_)
  refine lv_aload_n hx hb dL_law_1146 rfl (lv_at hl 4 rfl) ?_
  refine kV_I (C := RX7) (T := TX7) (N := 31) (As := []) (rest := []) ⟨hx, hb, hml, hown, hts⟩ (c_X7_thrown l G dA L f4 ad (nl + 1) nb q qk ((x.1).1) ((x.1).2.1) ((x.1).2.2.1) ((x.1).2.2.2) ((x.2.1).1) ((x.2.1).2) x.2.2.2.2.2 tt.1 ((x.2.2.2.2.1).1) ((x.2.2.2.2.1).2.1) 0 pa bad num RA RB TH DE KI WE NX LI LM KE TX BW TI KV DM f1 hC hX2) (cwV 0 hts gL_law_X7_thrown rfl rfl rfl (by decide +kernel) ⟨Nat.le_of_ble_eq_true rfl, Nat.le_of_ble_eq_true rfl⟩) hw hA (hC.m (by decide)) hX2.o rfl rfl hl.1 rfl (Nat.le_of_ble_eq_true rfl) dL_law_1147 ⟨hc1, hs1⟩ (fun r6 f7 H locs hp hw => ?_)
  obtain ⟨e1, e2⟩ := hp
  rw [e2] at hw
  rw [e1]
  refine lv_iload hx hb dL_law_1150 (lv_at hl 1 rfl) ?_
  refine lv_icmp_eq (tgt := 1157) hx hb dL_law_1152 (by decide) (fun _ => ?_) (fun c9 => absurd rfl c9)
  refine lv_iload hx hb dL_law_1157 (lv_at hl 1 rfl) ?_
  refine lv_if_ne (tgt := 1174) hx hb dL_law_1159 (by decide) (fun c9 => absurd c9 (fun h7 => h7 rfl)) (fun _ => ?_)
  refine lv_aload_n hx hb dL_law_1162 rfl (lv_at hl 5 rfl) ?_
  refine lv_iconst (v := 0) hx hb dL_law_1163 (by decide) ?_
  refine wld_l hx hb hw (hC.m (by decide)) ((hX2.fr (by omega) (by omega)).trans hown9) 0 (by decide) (by decide) nI_0.symm dL_law_1164 ?_
  rw [show ((vp_updL o 0 ((nI x.2.2.2.2.2).toInt64))) 0 = (nI x.2.2.2.2.2).toInt64 from vpL_s]
  refine lv_iload hx hb dL_law_1165 (lv_at hl 0 rfl) ?_
  refine lv_i2l (v := (nI x.2.2.2.2.2).toInt64) hx hb dL_law_1167 rfl ?_
  refine W.lcmp hx hb dL_law_1168 ?_
  rw [lgc_self]
  refine lv_if_eq (tgt := 1174) hx hb dL_law_1169 (by decide) (fun _ => ?_) (fun c9 => absurd rfl c9)
  refine lv_goto (tgt := 1177) hx hb dL_law_1174 (by decide) ?_
  exact kk9 x kk tt f4 _ _ ls (LwI.of (x := x) (kk := kk) (tt := tt) hR1 ⟨_, _, _, _, _, _, _, _, _, _, _, _, _, _, _, _, _, _, hX2, hMk, hMb, hMw, hMt, hMp⟩ ⟨_, hown9⟩ ⟨_, hoth⟩ hG htt hTT) (Nat.le_add_right _ _) hw (lv_sub hl [2, 3, 4, 5, 6, 7] rfl)

set_option maxHeartbeats 4000000 in
set_option maxRecDepth 100000 in
theorem k_count_01 {p : Program} {l : Launch} {e : Env} {s : State} {m : MethodId} {below : List Frame} {meth : Method} {c : Code} {G : va_G} {dA : Nat → ClassId} {b Ls si : Nat} {xs : Nat → Int32} {sa ad : Nat → Nat} {L : List Nat} {nl nb : Nat} {q qk : Nat → Option Nat} {x : sR} {kk : Nat → UInt64 × UInt64} {tt : sT} {f : Nat → va_E} {H : Heap} {locs : List Loc} {ls : Array Slot} {cells slots : Nat}  (hLC : LC p l s m c meth b Ls xs G dA sa ad L nl nb q qk) (hsi : si + 5 ≤ Ls) (hc1 : cells + 1 ≤ room_1.cells) (hs1 : slots + 6 ≤ room_1.slots) (hLI : LwI ad dA nl nb q qk x kk tt f) (hhr : x.2.2.2.2.2 < 2 ^ 29) (hw : ww G dA (fun z : Nat => s.heap.size ≤ z) s L f H locs) (hl : lv_has ls 10 [(0, .ref b), (1, .ref (ad 0)), (2, .ref (ad 16)), (3, .ref (ad 32)), (4, .ref (ad 33)), (5, .int (nI si))]) (hj1 : xs (si + 1) = nI 1)
    (kk9 : ∀ (x2 : sR) (kk2 : Nat → UInt64 × UInt64) (tt2 : sT) (f2 : Nat → va_E) (H : Heap) (locs : List Loc) (ls : Array Slot), LwI ad dA nl nb q qk x2 kk2 tt2 f2 → x2.2.2.2.2.2 ≤ x.2.2.2.2.2 + 100 → ww G dA (fun z : Nat => s.heap.size ≤ z) s L f2 H locs → lv_has ls 10 [(0, .ref b), (1, .ref (ad 0)), (2, .ref (ad 16)), (3, .ref (ad 32)), (4, .ref (ad 33)), (5, .int (nI si))] → W p l e room_1 s m #[Value.ref b] below meth c H locs (cells + 1) (slots + 6) (lw_Z below #[Value.ref b] s) (F0 m 1177 ls [])) : W p l e room_1 s m #[Value.ref b] below meth c H locs cells slots (lw_Z below #[Value.ref b] s) (F0 m 1121 ls []) := by
  obtain ⟨hx, hb, hml, hown, hts, hXs, hbl, hlt, hE, hC, hLs, hret, hlocks⟩ := hLC
  have hA : ∀ z : Nat, s.heap.size ≤ z → (fun z : Nat => s.heap.size ≤ z) z := fun _ h => h
  have hbA : ¬ (fun z : Nat => s.heap.size ≤ z) b := Nat.not_le.mpr hbl
  obtain ⟨hR, ⟨thr, hM⟩, ⟨o, ho⟩, ⟨od, hd⟩, hG, htt, hTT⟩ := hLI
  obtain ⟨pa, bad, num, RA, RB, TH, DE, KI, WE, NX, LI, LM, KE, TX, BW, TI, KV, DM, hX, hMk, hMb, hMw, hMt, hMp⟩ := hM
  refine lv_aload_n hx hb dL_law_1121 rfl (lv_at hl 1 rfl) ?_
  refine lv_aload_n hx hb dL_law_1122 rfl (lv_at hl 0 rfl) ?_
  refine lv_iload hx hb dL_law_1123 (lv_at hl 5 rfl) ?_
  refine lv_iconst (v := 1) hx hb dL_law_1125 (by decide) ?_
  refine lv_iadd hx hb dL_law_1126 ?_
  rw [show nI si + 1 = nI (si + 1) from nI_add si 1]
  refine va_sld hx hb hXs hbl hbA hw.2.2.2 (vp_in_nI (show si + 1 < Ls by omega) (by omega)) dL_law_1127 ?_
  rw [nI_clamp (show si + 1 < 2 ^ 31 by omega)]
  rw [hj1]
  refine lv_aload_n hx hb dL_law_1128 rfl (lv_at hl 3 rfl) ?_
  refine kH (As := [.ref (ad 0), .int (nI 1), .ref (ad 32)]) (rest := []) ⟨hx, hb, hml, hown, hts⟩ (h_c_X6_count_1 l hlt G dA sa L f ad (nl + 1) nb q qk x.1 x.2.1 x.2.2.1 x.2.2.2.1 kk tt x.2.2.2.2.1 x.2.2.2.2.2  hC hR  o ho) (vx_cwSW 3 hts gL_law_L_count rfl rfl rfl (by decide +kernel) ⟨Nat.le_of_ble_eq_true rfl, Nat.le_of_ble_eq_true rfl⟩) hw hE hA rfl hl.1 rfl (Nat.le_of_ble_eq_true rfl) dL_law_1129 ⟨hc1, hs1⟩ (fun r2 f1 H locs hp hw => ?_)
  obtain ⟨e1, hp⟩ := hp
  rw [e1]
  have ef : f1 = va_up f (ad 32) (aL (dA 4) 1 (vp_updL o 0 ((nI x.2.2.2.2.1.2.1).toInt64))) := hp
  have hR1 : RC ad dA (nl + 1) nb q qk x.1 x.2.1 x.2.2.1 x.2.2.2.1 kk tt x.2.2.2.2.1 x.2.2.2.2.2 f1 f1 := hR.mv (fun i hi h => by rw [ef]; exact va_up_ne _ _ (hC.ne hi (by omega) (by omega))) (fun _ _ _ => rfl)
  have hX3 : MX ad dA (nl + 1) nb ((x.1).1) ((x.1).2.1) ((x.1).2.2.1) ((x.1).2.2.2) ((x.2.1).1) ((x.2.1).2) x.2.2.2.2.2 tt.1 ((x.2.2.2.2.1).1) ((x.2.2.2.2.1).2.1) thr pa bad num RA RB TH DE KI WE NX LI LM KE TX BW TI KV DM f1 f1 := hX.mv (fun i h1 h2 => by rw [ef]; exact va_up_ne _ _ (hC.ne (by omega) (by omega) (by omega))) (fun _ _ _ => rfl)
  have hoth : f1 (ad 33) = aD (dA 1) 1 od := by rw [ef]; exact (va_up_ne _ _ (hC.ne (by omega) (by omega) (by decide))).trans hd
  have hown9 : f1 (ad 32) = aL (dA 4) 1 (vp_updL o 0 ((nI x.2.2.2.2.1.2.1).toInt64)) := by rw [ef]; exact va_up_self _ _ _
  refine lv_istore (lv' := [(6, .int 0), (0, .ref b), (1, .ref (ad 0)), (2, .ref (ad 16)), (3, .ref (ad 32)), (4, .ref (ad 33)), (5, .int (nI si))]) hx hb dL_law_1132 hl (by decide) rfl (fun ls hl => ?_)
  refine lv_aload_n hx hb dL_law_1134 rfl (lv_at hl 3 rfl) ?_
  refine lv_aload_n hx hb dL_law_1135 rfl (lv_at hl 1 rfl) ?_
  refine lv_iload hx hb dL_law_1136 (lv_at hl 6 rfl) ?_
  refine lv_iconst (v := 1) hx hb dL_law_1138 (by decide) ?_
  refine lv_iadd hx hb dL_law_1139 ?_
  rw [show nI si + 1 = nI (si + 1) from nI_add si 1]
  refine va_sld hx hb hXs hbl hbA hw.2.2.2 (vp_in_nI (show si + 1 < Ls by omega) (by omega)) dL_law_1140 ?_
  rw [nI_clamp (show si + 1 < 2 ^ 31 by omega)]
  rw [hj1]
  refine kV_I (C := RX7) (T := TX7) (N := 31) (As := [.int (nI 1)]) (rest := []) ⟨hx, hb, hml, hown, hts⟩ (c_X7_count_1 l G dA L f1 ad (nl + 1) nb q qk ((x.1).1) ((x.1).2.1) ((x.1).2.2.1) ((x.1).2.2.2) ((x.2.1).1) ((x.2.1).2) x.2.2.2.2.2 tt.1 ((x.2.2.2.2.1).1) ((x.2.2.2.2.1).2.1) thr pa bad num RA RB TH DE KI WE NX LI LM KE TX BW TI KV DM f1  hC hX3 ) (cwV 1 hts gL_law_X7_count rfl rfl rfl (by decide +kernel) ⟨Nat.le_of_ble_eq_true rfl, Nat.le_of_ble_eq_true rfl⟩) hw hA (hC.m (by decide)) hX3.o rfl rfl hl.1 rfl (Nat.le_of_ble_eq_true rfl) dL_law_1141 ⟨hc1, hs1⟩ (fun r5 f4 H locs hp hw => ?_)
  obtain ⟨e1, hp⟩ := hp
  rw [e1]
  have hX2 : MX ad dA (nl + 1) nb ((x.1).1) ((x.1).2.1) ((x.1).2.2.1) ((x.1).2.2.2) ((x.2.1).1) ((x.2.1).2) x.2.2.2.2.2 tt.1 ((x.2.2.2.2.1).1) ((x.2.2.2.2.1).2.1) 0 pa bad num RA RB TH DE KI WE NX LI LM KE TX BW TI KV DM f1 f4 := hp
  refine lv_istore (lv' := [(7, .int (nI x.2.2.2.2.1.2.1)), (6, .int 0), (0, .ref b), (1, .ref (ad 0)), (2, .ref (ad 16)), (3, .ref (ad 32)), (4, .ref (ad 33)), (5, .int (nI si))]) hx hb dL_law_1144 hl (by decide) rfl (fun ls hl => ?_)
  refine lv_aload_n hx hb dL_law_1146 rfl (lv_at hl 4 rfl) ?_
  refine kV_I (C := RX7) (T := TX7) (N := 31) (As := []) (rest := []) ⟨hx, hb, hml, hown, hts⟩ (c_X7_thrown l G dA L f4 ad (nl + 1) nb q qk ((x.1).1) ((x.1).2.1) ((x.1).2.2.1) ((x.1).2.2.2) ((x.2.1).1) ((x.2.1).2) x.2.2.2.2.2 tt.1 ((x.2.2.2.2.1).1) ((x.2.2.2.2.1).2.1) 0 pa bad num RA RB TH DE KI WE NX LI LM KE TX BW TI KV DM f1 hC hX2) (cwV 0 hts gL_law_X7_thrown rfl rfl rfl (by decide +kernel) ⟨Nat.le_of_ble_eq_true rfl, Nat.le_of_ble_eq_true rfl⟩) hw hA (hC.m (by decide)) hX2.o rfl rfl hl.1 rfl (Nat.le_of_ble_eq_true rfl) dL_law_1147 ⟨hc1, hs1⟩ (fun r6 f7 H locs hp hw => ?_)
  obtain ⟨e1, e2⟩ := hp
  rw [e2] at hw
  rw [e1]
  refine lv_iload hx hb dL_law_1150 (lv_at hl 1 rfl) ?_
  refine lv_icmp_eq (tgt := 1157) hx hb dL_law_1152 (by decide) (fun _ => ?_) (fun c9 => absurd rfl c9)
  refine lv_iload hx hb dL_law_1157 (lv_at hl 1 rfl) ?_
  refine lv_if_ne (tgt := 1174) hx hb dL_law_1159 (by decide) (fun c9 => absurd c9 (fun h7 => h7 rfl)) (fun _ => ?_)
  refine lv_aload_n hx hb dL_law_1162 rfl (lv_at hl 5 rfl) ?_
  refine lv_iconst (v := 0) hx hb dL_law_1163 (by decide) ?_
  refine wld_l hx hb hw (hC.m (by decide)) ((hX2.fr (by omega) (by omega)).trans hown9) 0 (by decide) (by decide) nI_0.symm dL_law_1164 ?_
  rw [show ((vp_updL o 0 ((nI x.2.2.2.2.1.2.1).toInt64))) 0 = (nI x.2.2.2.2.1.2.1).toInt64 from vpL_s]
  refine lv_iload hx hb dL_law_1165 (lv_at hl 0 rfl) ?_
  refine lv_i2l (v := (nI x.2.2.2.2.1.2.1).toInt64) hx hb dL_law_1167 rfl ?_
  refine W.lcmp hx hb dL_law_1168 ?_
  rw [lgc_self]
  refine lv_if_eq (tgt := 1174) hx hb dL_law_1169 (by decide) (fun _ => ?_) (fun c9 => absurd rfl c9)
  refine lv_goto (tgt := 1177) hx hb dL_law_1174 (by decide) ?_
  exact kk9 x kk tt f4 _ _ ls (LwI.of (x := x) (kk := kk) (tt := tt) hR1 ⟨_, _, _, _, _, _, _, _, _, _, _, _, _, _, _, _, _, _, hX2, hMk, hMb, hMw, hMt, hMp⟩ ⟨_, hown9⟩ ⟨_, hoth⟩ hG htt hTT) (Nat.le_add_right _ _) hw (lv_sub hl [2, 3, 4, 5, 6, 7] rfl)

set_option maxHeartbeats 4000000 in
set_option maxRecDepth 100000 in
theorem k_count_02 {p : Program} {l : Launch} {e : Env} {s : State} {m : MethodId} {below : List Frame} {meth : Method} {c : Code} {G : va_G} {dA : Nat → ClassId} {b Ls si : Nat} {xs : Nat → Int32} {sa ad : Nat → Nat} {L : List Nat} {nl nb : Nat} {q qk : Nat → Option Nat} {x : sR} {kk : Nat → UInt64 × UInt64} {tt : sT} {f : Nat → va_E} {H : Heap} {locs : List Loc} {ls : Array Slot} {cells slots : Nat}  (hLC : LC p l s m c meth b Ls xs G dA sa ad L nl nb q qk) (hsi : si + 5 ≤ Ls) (hc1 : cells + 1 ≤ room_1.cells) (hs1 : slots + 6 ≤ room_1.slots) (hLI : LwI ad dA nl nb q qk x kk tt f) (hhr : x.2.2.2.2.2 < 2 ^ 29) (hw : ww G dA (fun z : Nat => s.heap.size ≤ z) s L f H locs) (hl : lv_has ls 10 [(0, .ref b), (1, .ref (ad 0)), (2, .ref (ad 16)), (3, .ref (ad 32)), (4, .ref (ad 33)), (5, .int (nI si))]) (hj1 : xs (si + 1) = nI 2)
    (kk9 : ∀ (x2 : sR) (kk2 : Nat → UInt64 × UInt64) (tt2 : sT) (f2 : Nat → va_E) (H : Heap) (locs : List Loc) (ls : Array Slot), LwI ad dA nl nb q qk x2 kk2 tt2 f2 → x2.2.2.2.2.2 ≤ x.2.2.2.2.2 + 100 → ww G dA (fun z : Nat => s.heap.size ≤ z) s L f2 H locs → lv_has ls 10 [(0, .ref b), (1, .ref (ad 0)), (2, .ref (ad 16)), (3, .ref (ad 32)), (4, .ref (ad 33)), (5, .int (nI si))] → W p l e room_1 s m #[Value.ref b] below meth c H locs (cells + 1) (slots + 6) (lw_Z below #[Value.ref b] s) (F0 m 1177 ls [])) : W p l e room_1 s m #[Value.ref b] below meth c H locs cells slots (lw_Z below #[Value.ref b] s) (F0 m 1121 ls []) := by
  obtain ⟨hx, hb, hml, hown, hts, hXs, hbl, hlt, hE, hC, hLs, hret, hlocks⟩ := hLC
  have hA : ∀ z : Nat, s.heap.size ≤ z → (fun z : Nat => s.heap.size ≤ z) z := fun _ h => h
  have hbA : ¬ (fun z : Nat => s.heap.size ≤ z) b := Nat.not_le.mpr hbl
  obtain ⟨hR, ⟨thr, hM⟩, ⟨o, ho⟩, ⟨od, hd⟩, hG, htt, hTT⟩ := hLI
  obtain ⟨pa, bad, num, RA, RB, TH, DE, KI, WE, NX, LI, LM, KE, TX, BW, TI, KV, DM, hX, hMk, hMb, hMw, hMt, hMp⟩ := hM
  refine lv_aload_n hx hb dL_law_1121 rfl (lv_at hl 1 rfl) ?_
  refine lv_aload_n hx hb dL_law_1122 rfl (lv_at hl 0 rfl) ?_
  refine lv_iload hx hb dL_law_1123 (lv_at hl 5 rfl) ?_
  refine lv_iconst (v := 1) hx hb dL_law_1125 (by decide) ?_
  refine lv_iadd hx hb dL_law_1126 ?_
  rw [show nI si + 1 = nI (si + 1) from nI_add si 1]
  refine va_sld hx hb hXs hbl hbA hw.2.2.2 (vp_in_nI (show si + 1 < Ls by omega) (by omega)) dL_law_1127 ?_
  rw [nI_clamp (show si + 1 < 2 ^ 31 by omega)]
  rw [hj1]
  refine lv_aload_n hx hb dL_law_1128 rfl (lv_at hl 3 rfl) ?_
  refine kH (As := [.ref (ad 0), .int (nI 2), .ref (ad 32)]) (rest := []) ⟨hx, hb, hml, hown, hts⟩ (h_c_X6_count_2 l hlt G dA sa L f ad (nl + 1) nb q qk x.1 x.2.1 x.2.2.1 x.2.2.2.1 kk tt x.2.2.2.2.1 x.2.2.2.2.2  hC hR  o ho) (vx_cwSW 3 hts gL_law_L_count rfl rfl rfl (by decide +kernel) ⟨Nat.le_of_ble_eq_true rfl, Nat.le_of_ble_eq_true rfl⟩) hw hE hA rfl hl.1 rfl (Nat.le_of_ble_eq_true rfl) dL_law_1129 ⟨hc1, hs1⟩ (fun r2 f1 H locs hp hw => ?_)
  obtain ⟨e1, hp⟩ := hp
  rw [e1]
  have ef : f1 = va_up f (ad 32) (aL (dA 4) 1 (vp_updL o 0 ((nI (cntTh x.2.2.1 nb)).toInt64))) := hp
  have hR1 : RC ad dA (nl + 1) nb q qk x.1 x.2.1 x.2.2.1 x.2.2.2.1 kk tt x.2.2.2.2.1 x.2.2.2.2.2 f1 f1 := hR.mv (fun i hi h => by rw [ef]; exact va_up_ne _ _ (hC.ne hi (by omega) (by omega))) (fun _ _ _ => rfl)
  have hX3 : MX ad dA (nl + 1) nb ((x.1).1) ((x.1).2.1) ((x.1).2.2.1) ((x.1).2.2.2) ((x.2.1).1) ((x.2.1).2) x.2.2.2.2.2 tt.1 ((x.2.2.2.2.1).1) ((x.2.2.2.2.1).2.1) thr pa bad num RA RB TH DE KI WE NX LI LM KE TX BW TI KV DM f1 f1 := hX.mv (fun i h1 h2 => by rw [ef]; exact va_up_ne _ _ (hC.ne (by omega) (by omega) (by omega))) (fun _ _ _ => rfl)
  have hoth : f1 (ad 33) = aD (dA 1) 1 od := by rw [ef]; exact (va_up_ne _ _ (hC.ne (by omega) (by omega) (by decide))).trans hd
  have hown9 : f1 (ad 32) = aL (dA 4) 1 (vp_updL o 0 ((nI (cntTh x.2.2.1 nb)).toInt64)) := by rw [ef]; exact va_up_self _ _ _
  refine lv_istore (lv' := [(6, .int 0), (0, .ref b), (1, .ref (ad 0)), (2, .ref (ad 16)), (3, .ref (ad 32)), (4, .ref (ad 33)), (5, .int (nI si))]) hx hb dL_law_1132 hl (by decide) rfl (fun ls hl => ?_)
  refine lv_aload_n hx hb dL_law_1134 rfl (lv_at hl 3 rfl) ?_
  refine lv_aload_n hx hb dL_law_1135 rfl (lv_at hl 1 rfl) ?_
  refine lv_iload hx hb dL_law_1136 (lv_at hl 6 rfl) ?_
  refine lv_iconst (v := 1) hx hb dL_law_1138 (by decide) ?_
  refine lv_iadd hx hb dL_law_1139 ?_
  rw [show nI si + 1 = nI (si + 1) from nI_add si 1]
  refine va_sld hx hb hXs hbl hbA hw.2.2.2 (vp_in_nI (show si + 1 < Ls by omega) (by omega)) dL_law_1140 ?_
  rw [nI_clamp (show si + 1 < 2 ^ 31 by omega)]
  rw [hj1]
  refine kV_I (C := RX7) (T := TX7) (N := 31) (As := [.int (nI 2)]) (rest := []) ⟨hx, hb, hml, hown, hts⟩ (c_X7_count_2 l G dA L f1 ad (nl + 1) nb q qk ((x.1).1) ((x.1).2.1) ((x.1).2.2.1) ((x.1).2.2.2) ((x.2.1).1) ((x.2.1).2) x.2.2.2.2.2 tt.1 ((x.2.2.2.2.1).1) ((x.2.2.2.2.1).2.1) thr pa bad num RA RB TH DE KI WE NX LI LM KE TX BW TI KV DM f1 x.2.2.1 hC hX3 hMb) (cwV 1 hts gL_law_X7_count rfl rfl rfl (by decide +kernel) ⟨Nat.le_of_ble_eq_true rfl, Nat.le_of_ble_eq_true rfl⟩) hw hA (hC.m (by decide)) hX3.o rfl rfl hl.1 rfl (Nat.le_of_ble_eq_true rfl) dL_law_1141 ⟨hc1, hs1⟩ (fun r5 f4 H locs hp hw => ?_)
  obtain ⟨e1, hp⟩ := hp
  rw [e1]
  have hX2 : MX ad dA (nl + 1) nb ((x.1).1) ((x.1).2.1) ((x.1).2.2.1) ((x.1).2.2.2) ((x.2.1).1) ((x.2.1).2) x.2.2.2.2.2 tt.1 ((x.2.2.2.2.1).1) ((x.2.2.2.2.1).2.1) 0 pa bad num RA RB TH DE KI WE NX LI LM KE TX BW TI KV DM f1 f4 := hp
  refine lv_istore (lv' := [(7, .int (nI (cntTh x.2.2.1 nb))), (6, .int 0), (0, .ref b), (1, .ref (ad 0)), (2, .ref (ad 16)), (3, .ref (ad 32)), (4, .ref (ad 33)), (5, .int (nI si))]) hx hb dL_law_1144 hl (by decide) rfl (fun ls hl => ?_)
  refine lv_aload_n hx hb dL_law_1146 rfl (lv_at hl 4 rfl) ?_
  refine kV_I (C := RX7) (T := TX7) (N := 31) (As := []) (rest := []) ⟨hx, hb, hml, hown, hts⟩ (c_X7_thrown l G dA L f4 ad (nl + 1) nb q qk ((x.1).1) ((x.1).2.1) ((x.1).2.2.1) ((x.1).2.2.2) ((x.2.1).1) ((x.2.1).2) x.2.2.2.2.2 tt.1 ((x.2.2.2.2.1).1) ((x.2.2.2.2.1).2.1) 0 pa bad num RA RB TH DE KI WE NX LI LM KE TX BW TI KV DM f1 hC hX2) (cwV 0 hts gL_law_X7_thrown rfl rfl rfl (by decide +kernel) ⟨Nat.le_of_ble_eq_true rfl, Nat.le_of_ble_eq_true rfl⟩) hw hA (hC.m (by decide)) hX2.o rfl rfl hl.1 rfl (Nat.le_of_ble_eq_true rfl) dL_law_1147 ⟨hc1, hs1⟩ (fun r6 f7 H locs hp hw => ?_)
  obtain ⟨e1, e2⟩ := hp
  rw [e2] at hw
  rw [e1]
  refine lv_iload hx hb dL_law_1150 (lv_at hl 1 rfl) ?_
  refine lv_icmp_eq (tgt := 1157) hx hb dL_law_1152 (by decide) (fun _ => ?_) (fun c9 => absurd rfl c9)
  refine lv_iload hx hb dL_law_1157 (lv_at hl 1 rfl) ?_
  refine lv_if_ne (tgt := 1174) hx hb dL_law_1159 (by decide) (fun c9 => absurd c9 (fun h7 => h7 rfl)) (fun _ => ?_)
  refine lv_aload_n hx hb dL_law_1162 rfl (lv_at hl 5 rfl) ?_
  refine lv_iconst (v := 0) hx hb dL_law_1163 (by decide) ?_
  refine wld_l hx hb hw (hC.m (by decide)) ((hX2.fr (by omega) (by omega)).trans hown9) 0 (by decide) (by decide) nI_0.symm dL_law_1164 ?_
  rw [show ((vp_updL o 0 ((nI (cntTh x.2.2.1 nb)).toInt64))) 0 = (nI (cntTh x.2.2.1 nb)).toInt64 from vpL_s]
  refine lv_iload hx hb dL_law_1165 (lv_at hl 0 rfl) ?_
  refine lv_i2l (v := (nI (cntTh x.2.2.1 nb)).toInt64) hx hb dL_law_1167 rfl ?_
  refine W.lcmp hx hb dL_law_1168 ?_
  rw [lgc_self]
  refine lv_if_eq (tgt := 1174) hx hb dL_law_1169 (by decide) (fun _ => ?_) (fun c9 => absurd rfl c9)
  refine lv_goto (tgt := 1177) hx hb dL_law_1174 (by decide) ?_
  exact kk9 x kk tt f4 _ _ ls (LwI.of (x := x) (kk := kk) (tt := tt) hR1 ⟨_, _, _, _, _, _, _, _, _, _, _, _, _, _, _, _, _, _, hX2, hMk, hMb, hMw, hMt, hMp⟩ ⟨_, hown9⟩ ⟨_, hoth⟩ hG htt hTT) (Nat.le_add_right _ _) hw (lv_sub hl [2, 3, 4, 5, 6, 7] rfl)

set_option maxHeartbeats 4000000 in
set_option maxRecDepth 100000 in
theorem k_count_1 {p : Program} {l : Launch} {e : Env} {s : State} {m : MethodId} {below : List Frame} {meth : Method} {c : Code} {G : va_G} {dA : Nat → ClassId} {b Ls si : Nat} {xs : Nat → Int32} {sa ad : Nat → Nat} {L : List Nat} {nl nb : Nat} {q qk : Nat → Option Nat} {x : sR} {kk : Nat → UInt64 × UInt64} {tt : sT} {f : Nat → va_E} {H : Heap} {locs : List Loc} {ls : Array Slot} {cells slots : Nat}  (hLC : LC p l s m c meth b Ls xs G dA sa ad L nl nb q qk) (hsi : si + 5 ≤ Ls) (hc1 : cells + 1 ≤ room_1.cells) (hs1 : slots + 6 ≤ room_1.slots) (hLI : LwI ad dA nl nb q qk x kk tt f) (hhr : x.2.2.2.2.2 < 2 ^ 29) (hw : ww G dA (fun z : Nat => s.heap.size ≤ z) s L f H locs) (hl : lv_has ls 10 [(0, .ref b), (1, .ref (ad 0)), (2, .ref (ad 16)), (3, .ref (ad 32)), (4, .ref (ad 33)), (5, .int (nI si))]) (hbad : xs (si + 1) < 0 ∨ 2 < xs (si + 1))
    (kk9 : ∀ (x2 : sR) (kk2 : Nat → UInt64 × UInt64) (tt2 : sT) (f2 : Nat → va_E) (H : Heap) (locs : List Loc) (ls : Array Slot), LwI ad dA nl nb q qk x2 kk2 tt2 f2 → x2.2.2.2.2.2 ≤ x.2.2.2.2.2 + 100 → ww G dA (fun z : Nat => s.heap.size ≤ z) s L f2 H locs → lv_has ls 10 [(0, .ref b), (1, .ref (ad 0)), (2, .ref (ad 16)), (3, .ref (ad 32)), (4, .ref (ad 33)), (5, .int (nI si))] → W p l e room_1 s m #[Value.ref b] below meth c H locs (cells + 1) (slots + 6) (lw_Z below #[Value.ref b] s) (F0 m 1177 ls [])) : W p l e room_1 s m #[Value.ref b] below meth c H locs cells slots (lw_Z below #[Value.ref b] s) (F0 m 1121 ls []) := by
  obtain ⟨hx, hb, hml, hown, hts, hXs, hbl, hlt, hE, hC, hLs, hret, hlocks⟩ := hLC
  have hA : ∀ z : Nat, s.heap.size ≤ z → (fun z : Nat => s.heap.size ≤ z) z := fun _ h => h
  have hbA : ¬ (fun z : Nat => s.heap.size ≤ z) b := Nat.not_le.mpr hbl
  obtain ⟨hR, ⟨thr, hM⟩, ⟨o, ho⟩, ⟨od, hd⟩, hG, htt, hTT⟩ := hLI
  obtain ⟨pa, bad, num, RA, RB, TH, DE, KI, WE, NX, LI, LM, KE, TX, BW, TI, KV, DM, hX, hMk, hMb, hMw, hMt, hMp⟩ := hM
  refine lv_aload_n hx hb dL_law_1121 rfl (lv_at hl 1 rfl) ?_
  refine lv_aload_n hx hb dL_law_1122 rfl (lv_at hl 0 rfl) ?_
  refine lv_iload hx hb dL_law_1123 (lv_at hl 5 rfl) ?_
  refine lv_iconst (v := 1) hx hb dL_law_1125 (by decide) ?_
  refine lv_iadd hx hb dL_law_1126 ?_
  rw [show nI si + 1 = nI (si + 1) from nI_add si 1]
  refine va_sld hx hb hXs hbl hbA hw.2.2.2 (vp_in_nI (show si + 1 < Ls by omega) (by omega)) dL_law_1127 ?_
  rw [nI_clamp (show si + 1 < 2 ^ 31 by omega)]
  refine lv_aload_n hx hb dL_law_1128 rfl (lv_at hl 3 rfl) ?_
  refine kH (As := [.ref (ad 0), .int (xs (si + 1)), .ref (ad 32)]) (rest := []) ⟨hx, hb, hml, hown, hts⟩ (h_x1_X6_count l hlt G dA sa L f ad (nl + 1) nb q qk x.1 x.2.1 x.2.2.1 x.2.2.2.1 kk tt x.2.2.2.2.1 x.2.2.2.2.2 (xs (si + 1)) hC hR hbad o ho) (vx_cwSW 3 hts gL_law_L_count rfl rfl rfl (by decide +kernel) ⟨Nat.le_of_ble_eq_true rfl, Nat.le_of_ble_eq_true rfl⟩) hw hE hA rfl hl.1 rfl (Nat.le_of_ble_eq_true rfl) dL_law_1129 ⟨hc1, hs1⟩ (fun r2 f1 H locs hp hw => ?_)
  obtain ⟨e1, e2⟩ := hp
  rw [e2] at hw
  rw [e1]
  refine lv_istore (lv' := [(6, .int 1), (0, .ref b), (1, .ref (ad 0)), (2, .ref (ad 16)), (3, .ref (ad 32)), (4, .ref (ad 33)), (5, .int (nI si))]) hx hb dL_law_1132 hl (by decide) rfl (fun ls hl => ?_)
  refine lv_aload_n hx hb dL_law_1134 rfl (lv_at hl 3 rfl) ?_
  refine lv_aload_n hx hb dL_law_1135 rfl (lv_at hl 1 rfl) ?_
  refine lv_iload hx hb dL_law_1136 (lv_at hl 6 rfl) ?_
  refine lv_iconst (v := 1) hx hb dL_law_1138 (by decide) ?_
  refine lv_iadd hx hb dL_law_1139 ?_
  rw [show nI si + 1 = nI (si + 1) from nI_add si 1]
  refine va_sld hx hb hXs hbl hbA hw.2.2.2 (vp_in_nI (show si + 1 < Ls by omega) (by omega)) dL_law_1140 ?_
  rw [nI_clamp (show si + 1 < 2 ^ 31 by omega)]
  refine kV_I (C := RX7) (T := TX7) (N := 31) (As := [.int (xs (si + 1))]) (rest := []) ⟨hx, hb, hml, hown, hts⟩ (t1_X7_count l G dA L f ad (nl + 1) nb q qk ((x.1).1) ((x.1).2.1) ((x.1).2.2.1) ((x.1).2.2.2) ((x.2.1).1) ((x.2.1).2) x.2.2.2.2.2 tt.1 ((x.2.2.2.2.1).1) ((x.2.2.2.2.1).2.1) thr pa bad num RA RB TH DE KI WE NX LI LM KE TX BW TI KV DM f (xs (si + 1)) hC hX hbad) (cwV 1 hts gL_law_X7_count rfl rfl rfl (by decide +kernel) ⟨Nat.le_of_ble_eq_true rfl, Nat.le_of_ble_eq_true rfl⟩) hw hA (hC.m (by decide)) hX.o rfl rfl hl.1 rfl (Nat.le_of_ble_eq_true rfl) dL_law_1141 ⟨hc1, hs1⟩ (fun r4 f3 H locs hp hw => ?_)
  have hX2 : MX ad dA (nl + 1) nb ((x.1).1) ((x.1).2.1) ((x.1).2.2.1) ((x.1).2.2.2) ((x.2.1).1) ((x.2.1).2) x.2.2.2.2.2 tt.1 ((x.2.2.2.2.1).1) ((x.2.2.2.2.1).2.1) 1 pa bad num RA RB TH DE KI WE NX LI LM KE TX BW TI KV DM f f3 := hp
  refine lv_istore (lv' := [(7, .int r4), (6, .int 1), (0, .ref b), (1, .ref (ad 0)), (2, .ref (ad 16)), (3, .ref (ad 32)), (4, .ref (ad 33)), (5, .int (nI si))]) hx hb dL_law_1144 hl (by decide) rfl (fun ls hl => ?_)
  refine lv_aload_n hx hb dL_law_1146 rfl (lv_at hl 4 rfl) ?_
  refine kV_I (C := RX7) (T := TX7) (N := 31) (As := []) (rest := []) ⟨hx, hb, hml, hown, hts⟩ (c_X7_thrown l G dA L f3 ad (nl + 1) nb q qk ((x.1).1) ((x.1).2.1) ((x.1).2.2.1) ((x.1).2.2.2) ((x.2.1).1) ((x.2.1).2) x.2.2.2.2.2 tt.1 ((x.2.2.2.2.1).1) ((x.2.2.2.2.1).2.1) 1 pa bad num RA RB TH DE KI WE NX LI LM KE TX BW TI KV DM f hC hX2) (cwV 0 hts gL_law_X7_thrown rfl rfl rfl (by decide +kernel) ⟨Nat.le_of_ble_eq_true rfl, Nat.le_of_ble_eq_true rfl⟩) hw hA (hC.m (by decide)) hX2.o rfl rfl hl.1 rfl (Nat.le_of_ble_eq_true rfl) dL_law_1147 ⟨hc1, hs1⟩ (fun r5 f6 H locs hp hw => ?_)
  obtain ⟨e1, e2⟩ := hp
  rw [e2] at hw
  rw [e1]
  refine lv_iload hx hb dL_law_1150 (lv_at hl 1 rfl) ?_
  refine lv_icmp_eq (tgt := 1157) hx hb dL_law_1152 (by decide) (fun _ => ?_) (fun c9 => absurd rfl c9)
  refine lv_iload hx hb dL_law_1157 (lv_at hl 1 rfl) ?_
  refine lv_if_ne (tgt := 1174) hx hb dL_law_1159 (by decide) (fun _ => ?_) (fun c9 => absurd c9 (by decide))
  refine lv_goto (tgt := 1177) hx hb dL_law_1174 (by decide) ?_
  exact kk9 x kk tt f3 _ _ ls (LwI.of (x := x) (kk := kk) (tt := tt) hR ⟨_, _, _, _, _, _, _, _, _, _, _, _, _, _, _, _, _, _, hX2, hMk, hMb, hMw, hMt, hMp⟩ ⟨_, ho⟩ ⟨_, hd⟩ hG htt hTT) (Nat.le_add_right _ _) hw (lv_sub hl [2, 3, 4, 5, 6, 7] rfl)
